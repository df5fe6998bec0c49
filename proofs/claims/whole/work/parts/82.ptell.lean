/-! the reader of the class: checks, and what it tells -/
def TokR (g : Mem) (R : Nat) (T : Tx) (q : Nat) : Prop := g R 5 = ((q + szT T q : Nat) : Int) ∧ g R 9 = kdT T q ∧ g R 10 = (q : Int) ∧ g R 11 = (szT T q : Int) ∧ g R 12 = (if kdT T q = 1 then nmF (fT T q) (szT T q) else 0) ∧ g R 13 = (if kdT T q = 1 then rwF (fT T q) (szT T q) else 1) ∧ g R 14 = (if kdT T q = 2 then naF (fT T q) (szT T q) else 0)
theorem adv_tok {g : Mem} {R p : Nat} {T : Tx} : TokR (advM g R T p) R T (sk T p) := ⟨tokM_at, tokM_at, tokM_at, tokM_at, tokM_at, tokM_at, tokM_at⟩
theorem TokR.same {g g2 : Mem} {R q : Nat} {T : Tx} (h : TokR g R T q) (e : ∀ j, 5 ≤ j → g2 R j = g R j) : TokR g2 R T q := by
  unfold TokR
  rw [e 5 (by decide), e 9 (by decide), e 10 (by decide), e 11 (by decide), e 12 (by decide), e 13 (by decide), e 14 (by decide)]
  exact h
theorem sc_r : ∀ i, i < 8 → ∀ k, k < st_len.getD i 0 → 97 ≤ sc i k ∧ sc i k ≤ 122 := by decide +kernel
section KD
variable {T : Tx} {q : Nat}
theorem by_ge (h : ¬ q < T.2) : byT T q = -1 := if_neg h
theorem kd_D (hT : ∀ k, 0 ≤ T.1 k ∧ T.1 k ≤ 255) : kdT T q = 1 ↔ dn T q ≠ 0 := by
  constructor
  · intro h
    have hq : q < T.2 := by
      by_cases z : q < T.2
      · exact z
      · unfold kdT at h; rw [if_neg z] at h; omega
    rw [kdT_lt hq] at h
    have := dn_pos ((kindI_1 hT).mp h)
    omega
  · intro h
    have h1 := (rn_spec (T := T) hD q).1 0 (show 0 < dn T q by omega)
    rw [Nat.add_zero] at h1
    have hq : q < T.2 := by
      by_cases z : q < T.2
      · exact z
      · rw [by_ge z] at h1; cases h1
    rw [kdT_lt hq]
    exact (kindI_1 hT).mpr h1
theorem kd_L (hT : ∀ k, 0 ≤ T.1 k ∧ T.1 k ≤ 255) : kdT T q = 2 ↔ ln T q ≠ 0 := by
  constructor
  · intro h
    have hq : q < T.2 := by
      by_cases z : q < T.2
      · exact z
      · unfold kdT at h; rw [if_neg z] at h; omega
    rw [kdT_lt hq] at h
    have := ln_pos ((kindI_2 hT).mp h)
    omega
  · intro h
    have h1 := (rn_spec (T := T) hL q).1 0 (show 0 < ln T q by omega)
    rw [Nat.add_zero] at h1
    have hq : q < T.2 := by
      by_cases z : q < T.2
      · exact z
      · rw [by_ge z] at h1; cases h1
    rw [kdT_lt hq]
    exact (kindI_2 hT).mpr h1
theorem kd_S (hT : ∀ k, 0 ≤ T.1 k ∧ T.1 k ≤ 255) : kdT T q = 3 ↔ byT T q = 59 := by
  constructor
  · intro h
    have hq : q < T.2 := by
      by_cases z : q < T.2
      · exact z
      · unfold kdT at h; rw [if_neg z] at h; omega
    rw [kdT_lt hq] at h
    exact (kindI_3 hT).mp h
  · intro h
    rw [kdT_lt (by_lt h (by decide))]
    exact (kindI_3 hT).mpr h
theorem kd_E (hT : ∀ k, 0 ≤ T.1 k ∧ T.1 k ≤ 255) : kdT T q = 0 ↔ byT T q = -1 := by
  constructor
  · intro h
    by_cases z : q < T.2
    · rw [kdT_lt z] at h
      have := kindI_r (sgn T q)
      omega
    · exact by_ge z
  · intro h
    by_cases z : q < T.2
    · unfold byT at h
      rw [if_pos z] at h
      have := hT q
      omega
    · exact if_neg z
theorem sz_D (hT : ∀ k, 0 ≤ T.1 k ∧ T.1 k ≤ 255) (h : dn T q ≠ 0) : szT T q = dn T q := by unfold szT; rw [if_pos ((kd_D hT).mpr h)]
theorem sz_L (hT : ∀ k, 0 ≤ T.1 k ∧ T.1 k ≤ 255) (h : ln T q ≠ 0) : szT T q = ln T q := by
  have := (kd_L hT).mpr h
  unfold szT; rw [if_neg (by omega), if_pos this]
theorem sz_S (hT : ∀ k, 0 ≤ T.1 k ∧ T.1 k ≤ 255) (h : byT T q = 59) : szT T q = 1 := by
  have := (kd_S hT).mpr h
  unfold szT; rw [if_neg (by omega), if_neg (by omega), if_neg (by omega)]
theorem dig_of : ∀ j, j < dn T q → 48 ≤ fT T q j ∧ fT T q j ≤ 57 := fun j hj => of_decide_eq_true ((rn_spec (T := T) hD q).1 j hj)
theorem let_of : ∀ j, j < ln T q → 97 ≤ fT T q j ∧ fT T q j ≤ 122 := fun j hj => of_decide_eq_true ((rn_spec (T := T) hL q).1 j hj)
theorem num_of (hT : ∀ k, 0 ≤ T.1 k ∧ T.1 k ≤ 255) {g : Mem} {R : Nat} (hk : TokR g R T q) (h : dn T q ≠ 0) : (nv T q < 1000 → g R 12 = nv T q) ∧ (1000 ≤ nv T q → 1000 ≤ g R 12) ∧ 0 ≤ nv T q := by
  have e : g R 12 = nmF (fT T q) (dn T q) := by rw [hk.2.2.2.2.1, if_pos ((kd_D hT).mpr h), sz_D hT h]
  rw [e]
  exact nmF_bv dig_of
theorem row_of (hT : ∀ k, 0 ≤ T.1 k ∧ T.1 k ≤ 255) {g : Mem} {R : Nat} (hk : TokR g R T q) (h : dn T q ≠ 0) : (dn T q ≤ 6 → g R 13 = pw (dn T q) + bv (fT T q) (dn T q)) ∧ (6 < dn T q → g R 13 = 0) ∧ (0 ≤ g R 13 ∧ g R 13 < 2000000) := by
  have e : g R 13 = rwF (fT T q) (dn T q) := by rw [hk.2.2.2.2.2.1, if_pos ((kd_D hT).mpr h), sz_D hT h]
  rw [e]
  have := rwF_r (f := fT T q) (k := dn T q) dig_of
  exact ⟨this.2.2.1, this.2.2.2, this.1, this.2.1⟩
theorem name_of (hT : ∀ k, 0 ≤ T.1 k ∧ T.1 k ≤ 255) {g : Mem} {R : Nat} (hk : TokR g R T q) (h : ln T q ≠ 0) (h8 : ln T q ≤ 8) : g R 14 = nm27 (nmH T q) (nmT T q) ∧ 0 ≤ g R 14 ∧ g R 14 < 282429536481 := by
  have e : g R 14 = naF (fT T q) (ln T q) := by rw [hk.2.2.2.2.2.2, if_pos ((kd_L hT).mpr h), sz_L hT h]
  have hr := naF_r (f := fT T q) (k := ln T q) let_of
  rw [e]
  exact ⟨(hr.2.2 h8).trans (nm_parts h8 h).2, hr.1, hr.2.1⟩
theorem bd_of : ∀ n, n ≤ dn T q → bdB (fT T q) n = true
  | 0, _ => rfl
  | n + 1, h => bdB_s (bd_of n (by omega)) (dig_of n (by omega)).1 (dig_of n (by omega)).2
end KD
/-- the memory behind an error -/
def flM (g : Mem) (R : Nat) (c : Int) (q : Nat) : Mem := up2 (up2 g R 2 c) R 1 (q : Int)

set_option maxRecDepth 20000 in
theorem c_fail {w : Wd} {sh : Shp} {g : Mem} {R tx : Nat} (hR : RdS sh.1 R tx) {q : Nat} (hq : q ≤ 1000) (h10 : g R 10 = (q : Int)) {c : Int} (hc : R32 c) : CT w mX8_fail [.ref (R), .int (i32 (c))] sh g (dQ (some (.int (i32 0))) sh (flM g R c q)) := by
  refine j_entry (by decide) rfl (Nat.le_of_ble_eq_true rfl) (fun h => by cases h) rfl ?_
  show J w mX8_fail 0 [(0, .ref (R)), (1, .int (i32 (c)))] [] sh g 0 0 _
  refine j_aload_n 1 0 dX8_fail_0 rfl rfl ?_
  refine j_iload_n 2 1 dX8_fail_1 rfl rfl ?_
  refine j_puti 5 dX8_fail_2 rfl fl_X8_29 hR.rd rfl rfl rfl hc ?_
  refine j_mn (fun g_2 hg_2 => ?_)
  refine j_aload_n 6 0 dX8_fail_5 rfl rfl ?_
  refine j_aload_n 7 0 dX8_fail_6 rfl rfl ?_
  refine j_geti 10 dX8_fail_7 rfl fl_X8_190 hR.rd rfl rfl (fun r_7 => ?_)
  refine j_top (y := (q : Int)) ((by rw [hg_2, up2_k (by decide)]; exact h10)) ?_
  refine j_puti 13 dX8_fail_10 rfl fl_X8_32 hR.rd rfl rfl rfl (r32 (by omega) (by omega)) ?_
  refine j_mn (fun g_10 hg_10 => ?_)
  refine j_iconst 14 dX8_fail_13 rfl ?_
  exact j_zret dX8_fail_14 rfl (Or.inl rfl) (q_gi rfl (by rw [hg_10, hg_2]; rfl))

set_option maxRecDepth 20000 in
theorem c_num1 {w : Wd} {sh : Shp} {g : Mem} {R tx : Nat} (hR : RdS sh.1 R tx) {T : Tx} (hX : TxR g R tx T) {q : Nat} (hk : TokR g R T q) (hq : q ≤ T.2) {lo hi : Int} (hlo : 0 ≤ lo) (hhi : hi ≤ 999) (hlr : lo ≤ 1000) (hhr : -1000 ≤ hi) (hd : dn T q ≠ 0) (hr : lo ≤ nv T q ∧ nv T q ≤ hi) : CT w mX8_checkNumber [.ref (R), .int (i32 (lo)), .int (i32 (hi))] sh g (dQ (some (.int (i32 (1)))) sh g) := by
  have hT7 := hX.1
  have hTb := hX.2.2.2
  have hsz := szT_le hTb hq
  have hkr := kdT_r (T := T) q
  have hkd := (kd_D hTb).mpr hd
  have hnum := num_of hTb hk hd
  refine j_entry (by decide) rfl (Nat.le_of_ble_eq_true rfl) (fun h => by cases h) rfl ?_
  show J w mX8_checkNumber 0 [(0, .ref (R)), (1, .int (i32 (lo))), (2, .int (i32 (hi)))] [] sh g 0 0 _
  refine j_aload_n 1 0 dX8_checkNumber_0 rfl rfl ?_
  refine j_geti 4 dX8_checkNumber_1 rfl fl_X8_52 hR.rd rfl rfl (fun r_1 => ?_)
  refine j_top (y := kdT T q) (hk.2.1) ?_
  refine j_iconst 5 dX8_checkNumber_4 rfl ?_
  refine j_icmp_eq 8 15 dX8_checkNumber_5 rfl rfl ⟨by omega, by omega⟩ (r32 (by decide) (by decide)) (fun c_5 => ?_) (fun c_5 => absurd c_5 (by omega))
  refine j_aload_n 16 0 dX8_checkNumber_15 rfl rfl ?_
  refine j_geti 19 dX8_checkNumber_16 rfl fl_X8_75 hR.rd rfl rfl (fun r_16 => ?_)
  refine j_top (y := g R 12) (rfl) ?_
  refine j_iload_n 20 1 dX8_checkNumber_19 rfl rfl ?_
  refine j_icmp_lt 23 31 dX8_checkNumber_20 rfl rfl (by have := num_of hTb hk hd; have h9 := nmF_r (f := fT T q) (k := dn T q) dig_of; rw [hk.2.2.2.2.1, if_pos ((kd_D hTb).mpr hd), sz_D hTb hd]; exact ⟨by omega, by omega⟩) ⟨by omega, by omega⟩ (fun c_20 => absurd c_20 (by omega)) (fun c_20 => ?_)
  refine j_aload_n 24 0 dX8_checkNumber_23 rfl rfl ?_
  refine j_geti 27 dX8_checkNumber_24 rfl fl_X8_75 hR.rd rfl rfl (fun r_24 => ?_)
  refine j_top (y := g R 12) (rfl) ?_
  refine j_iload_n 28 2 dX8_checkNumber_27 rfl rfl ?_
  refine j_icmp_le 31 38 dX8_checkNumber_28 rfl rfl (by have := num_of hTb hk hd; have h9 := nmF_r (f := fT T q) (k := dn T q) dig_of; rw [hk.2.2.2.2.1, if_pos ((kd_D hTb).mpr hd), sz_D hTb hd]; exact ⟨by omega, by omega⟩) ⟨by omega, by omega⟩ (fun c_28 => ?_) (fun c_28 => absurd c_28 (by omega))
  refine j_iconst 39 dX8_checkNumber_38 rfl ?_
  exact j_zret dX8_checkNumber_39 rfl (Or.inr rfl) (⟨rfl, rfl, rfl⟩)

set_option maxRecDepth 20000 in
theorem c_num2 {w : Wd} {sh : Shp} {g : Mem} {R tx : Nat} (hR : RdS sh.1 R tx) {T : Tx} (hX : TxR g R tx T) {q : Nat} (hk : TokR g R T q) (hq : q ≤ T.2) {lo hi : Int} (hlo : 0 ≤ lo) (hhi : hi ≤ 999) (hlr : lo ≤ 1000) (hhr : -1000 ≤ hi) (hd : dn T q = 0) : CT w mX8_checkNumber [.ref (R), .int (i32 (lo)), .int (i32 (hi))] sh g (dQ (some (.int (i32 0))) sh (flM g R (-2) q)) := by
  have hT7 := hX.1
  have hTb := hX.2.2.2
  have hsz := szT_le hTb hq
  have hkr := kdT_r (T := T) q
  have hkd : kdT T q ≠ 1 := fun z => (kd_D hTb).mp z hd
  refine j_entry (by decide) rfl (Nat.le_of_ble_eq_true rfl) (fun h => by cases h) rfl ?_
  show J w mX8_checkNumber 0 [(0, .ref (R)), (1, .int (i32 (lo))), (2, .int (i32 (hi)))] [] sh g 0 0 _
  refine j_aload_n 1 0 dX8_checkNumber_0 rfl rfl ?_
  refine j_geti 4 dX8_checkNumber_1 rfl fl_X8_52 hR.rd rfl rfl (fun r_1 => ?_)
  refine j_top (y := kdT T q) (hk.2.1) ?_
  refine j_iconst 5 dX8_checkNumber_4 rfl ?_
  refine j_icmp_eq 8 15 dX8_checkNumber_5 rfl rfl ⟨by omega, by omega⟩ (r32 (by decide) (by decide)) (fun c_5 => absurd c_5 (by omega)) (fun c_5 => ?_)
  refine j_aload_n 9 0 dX8_checkNumber_8 rfl rfl ?_
  refine j_bipush 11 dX8_checkNumber_9 rfl (by decide) ?_
  refine j_callV 14 (As := [.int (i32 (-2))]) (kc2 := 0) (ks2 := 0) dX8_checkNumber_11 rfl mvX8_fail lk_X8_67 hR.rd rfl ⟨Nat.le_of_ble_eq_true rfl, rfl⟩ rfl rfl (Nat.le_of_ble_eq_true rfl) ⟨Nat.le_of_ble_eq_true rfl, Nat.le_of_ble_eq_true rfl⟩ ⟨Nat.le_of_ble_eq_true rfl, Nat.le_of_ble_eq_true rfl⟩ (c_fail hR (q := q) (by omega) hk.2.2.1 (r32 (by decide) (by decide))) x_d (k_d1 ?_)
  exact j_zret dX8_checkNumber_14 rfl (Or.inl rfl) (⟨rfl, rfl, rfl⟩)

set_option maxRecDepth 20000 in
theorem c_num3 {w : Wd} {sh : Shp} {g : Mem} {R tx : Nat} (hR : RdS sh.1 R tx) {T : Tx} (hX : TxR g R tx T) {q : Nat} (hk : TokR g R T q) (hq : q ≤ T.2) {lo hi : Int} (hlo : 0 ≤ lo) (hhi : hi ≤ 999) (hlr : lo ≤ 1000) (hhr : -1000 ≤ hi) (hd : dn T q ≠ 0) (hr : ¬ (lo ≤ nv T q ∧ nv T q ≤ hi)) : CT w mX8_checkNumber [.ref (R), .int (i32 (lo)), .int (i32 (hi))] sh g (dQ (some (.int (i32 0))) sh (flM g R (-3) q)) := by
  have hT7 := hX.1
  have hTb := hX.2.2.2
  have hsz := szT_le hTb hq
  have hkr := kdT_r (T := T) q
  have hkd := (kd_D hTb).mpr hd
  have hnum := num_of hTb hk hd
  refine j_entry (by decide) rfl (Nat.le_of_ble_eq_true rfl) (fun h => by cases h) rfl ?_
  show J w mX8_checkNumber 0 [(0, .ref (R)), (1, .int (i32 (lo))), (2, .int (i32 (hi)))] [] sh g 0 0 _
  refine j_aload_n 1 0 dX8_checkNumber_0 rfl rfl ?_
  refine j_geti 4 dX8_checkNumber_1 rfl fl_X8_52 hR.rd rfl rfl (fun r_1 => ?_)
  refine j_top (y := kdT T q) (hk.2.1) ?_
  refine j_iconst 5 dX8_checkNumber_4 rfl ?_
  refine j_icmp_eq 8 15 dX8_checkNumber_5 rfl rfl ⟨by omega, by omega⟩ (r32 (by decide) (by decide)) (fun c_5 => ?_) (fun c_5 => absurd c_5 (by omega))
  refine j_aload_n 16 0 dX8_checkNumber_15 rfl rfl ?_
  refine j_geti 19 dX8_checkNumber_16 rfl fl_X8_75 hR.rd rfl rfl (fun r_16 => ?_)
  refine j_top (y := g R 12) (rfl) ?_
  refine j_iload_n 20 1 dX8_checkNumber_19 rfl rfl ?_
  refine j_icmp_lt 23 31 dX8_checkNumber_20 rfl rfl (by have := num_of hTb hk hd; have h9 := nmF_r (f := fT T q) (k := dn T q) dig_of; rw [hk.2.2.2.2.1, if_pos ((kd_D hTb).mpr hd), sz_D hTb hd]; exact ⟨by omega, by omega⟩) ⟨by omega, by omega⟩ (fun c_20 => ?_) (fun c_20 => ?_)
  · refine j_aload_n 32 0 dX8_checkNumber_31 rfl rfl ?_
    refine j_bipush 34 dX8_checkNumber_32 rfl (by decide) ?_
    refine j_callV 37 (As := [.int (i32 (-3))]) (kc2 := 0) (ks2 := 0) dX8_checkNumber_34 rfl mvX8_fail lk_X8_67 hR.rd rfl ⟨Nat.le_of_ble_eq_true rfl, rfl⟩ rfl rfl (Nat.le_of_ble_eq_true rfl) ⟨Nat.le_of_ble_eq_true rfl, Nat.le_of_ble_eq_true rfl⟩ ⟨Nat.le_of_ble_eq_true rfl, Nat.le_of_ble_eq_true rfl⟩ (c_fail hR (q := q) (by omega) hk.2.2.1 (r32 (by decide) (by decide))) x_d (k_d1 ?_)
    exact j_zret dX8_checkNumber_37 rfl (Or.inl rfl) (⟨rfl, rfl, rfl⟩)
  · refine j_aload_n 24 0 dX8_checkNumber_23 rfl rfl ?_
    refine j_geti 27 dX8_checkNumber_24 rfl fl_X8_75 hR.rd rfl rfl (fun r_24 => ?_)
    refine j_top (y := g R 12) (rfl) ?_
    refine j_iload_n 28 2 dX8_checkNumber_27 rfl rfl ?_
    refine j_icmp_le 31 38 dX8_checkNumber_28 rfl rfl (by have := num_of hTb hk hd; have h9 := nmF_r (f := fT T q) (k := dn T q) dig_of; rw [hk.2.2.2.2.1, if_pos ((kd_D hTb).mpr hd), sz_D hTb hd]; exact ⟨by omega, by omega⟩) ⟨by omega, by omega⟩ (fun c_28 => absurd c_28 (by omega)) (fun c_28 => ?_)
    refine j_aload_n 32 0 dX8_checkNumber_31 rfl rfl ?_
    refine j_bipush 34 dX8_checkNumber_32 rfl (by decide) ?_
    refine j_callV 37 (As := [.int (i32 (-3))]) (kc2 := 0) (ks2 := 0) dX8_checkNumber_34 rfl mvX8_fail lk_X8_67 hR.rd rfl ⟨Nat.le_of_ble_eq_true rfl, rfl⟩ rfl rfl (Nat.le_of_ble_eq_true rfl) ⟨Nat.le_of_ble_eq_true rfl, Nat.le_of_ble_eq_true rfl⟩ ⟨Nat.le_of_ble_eq_true rfl, Nat.le_of_ble_eq_true rfl⟩ (c_fail hR (q := q) (by omega) hk.2.2.1 (r32 (by decide) (by decide))) x_d (k_d1 ?_)
    exact j_zret dX8_checkNumber_37 rfl (Or.inl rfl) (⟨rfl, rfl, rfl⟩)

set_option maxRecDepth 20000 in
theorem c_dig1 {w : Wd} {sh : Shp} {g : Mem} {R tx : Nat} (hR : RdS sh.1 R tx) {T : Tx} (hX : TxR g R tx T) {q : Nat} (hk : TokR g R T q) (hq : q ≤ T.2) {mo : Nat} (hmo : mo ≤ 10) (hd : dn T q ≠ 0) (hr : dn T q ≤ mo) : CT w mX8_checkDigits [.ref (R), .int (i32 ((mo : Int)))] sh g (dQ (some (.int (i32 (1)))) sh g) := by
  have hT7 := hX.1
  have hTb := hX.2.2.2
  have hsz := szT_le hTb hq
  have hkr := kdT_r (T := T) q
  have hkd := (kd_D hTb).mpr hd
  have hs := sz_D hTb hd
  refine j_entry (by decide) rfl (Nat.le_of_ble_eq_true rfl) (fun h => by cases h) rfl ?_
  show J w mX8_checkDigits 0 [(0, .ref (R)), (1, .int (i32 ((mo : Int))))] [] sh g 0 0 _
  refine j_aload_n 1 0 dX8_checkDigits_0 rfl rfl ?_
  refine j_geti 4 dX8_checkDigits_1 rfl fl_X8_52 hR.rd rfl rfl (fun r_1 => ?_)
  refine j_top (y := kdT T q) (hk.2.1) ?_
  refine j_iconst 5 dX8_checkDigits_4 rfl ?_
  refine j_icmp_eq 8 15 dX8_checkDigits_5 rfl rfl ⟨by omega, by omega⟩ (r32 (by decide) (by decide)) (fun c_5 => ?_) (fun c_5 => absurd c_5 (by omega))
  refine j_aload_n 16 0 dX8_checkDigits_15 rfl rfl ?_
  refine j_geti 19 dX8_checkDigits_16 rfl fl_X8_187 hR.rd rfl rfl (fun r_16 => ?_)
  refine j_top (y := (szT T q : Int)) (hk.2.2.2.1) ?_
  refine j_iload_n 20 1 dX8_checkDigits_19 rfl rfl ?_
  refine j_icmp_le 23 30 dX8_checkDigits_20 rfl rfl (r32 (by omega) (by omega)) (r32 (by omega) (by omega)) (fun c_20 => ?_) (fun c_20 => absurd c_20 (by omega))
  refine j_iconst 31 dX8_checkDigits_30 rfl ?_
  exact j_zret dX8_checkDigits_31 rfl (Or.inr rfl) (⟨rfl, rfl, rfl⟩)

set_option maxRecDepth 20000 in
theorem c_dig2 {w : Wd} {sh : Shp} {g : Mem} {R tx : Nat} (hR : RdS sh.1 R tx) {T : Tx} (hX : TxR g R tx T) {q : Nat} (hk : TokR g R T q) (hq : q ≤ T.2) {mo : Nat} (hmo : mo ≤ 10) (hd : dn T q = 0) : CT w mX8_checkDigits [.ref (R), .int (i32 ((mo : Int)))] sh g (dQ (some (.int (i32 0))) sh (flM g R (-2) q)) := by
  have hT7 := hX.1
  have hTb := hX.2.2.2
  have hsz := szT_le hTb hq
  have hkr := kdT_r (T := T) q
  have hkd : kdT T q ≠ 1 := fun z => (kd_D hTb).mp z hd
  refine j_entry (by decide) rfl (Nat.le_of_ble_eq_true rfl) (fun h => by cases h) rfl ?_
  show J w mX8_checkDigits 0 [(0, .ref (R)), (1, .int (i32 ((mo : Int))))] [] sh g 0 0 _
  refine j_aload_n 1 0 dX8_checkDigits_0 rfl rfl ?_
  refine j_geti 4 dX8_checkDigits_1 rfl fl_X8_52 hR.rd rfl rfl (fun r_1 => ?_)
  refine j_top (y := kdT T q) (hk.2.1) ?_
  refine j_iconst 5 dX8_checkDigits_4 rfl ?_
  refine j_icmp_eq 8 15 dX8_checkDigits_5 rfl rfl ⟨by omega, by omega⟩ (r32 (by decide) (by decide)) (fun c_5 => absurd c_5 (by omega)) (fun c_5 => ?_)
  refine j_aload_n 9 0 dX8_checkDigits_8 rfl rfl ?_
  refine j_bipush 11 dX8_checkDigits_9 rfl (by decide) ?_
  refine j_callV 14 (As := [.int (i32 (-2))]) (kc2 := 0) (ks2 := 0) dX8_checkDigits_11 rfl mvX8_fail lk_X8_67 hR.rd rfl ⟨Nat.le_of_ble_eq_true rfl, rfl⟩ rfl rfl (Nat.le_of_ble_eq_true rfl) ⟨Nat.le_of_ble_eq_true rfl, Nat.le_of_ble_eq_true rfl⟩ ⟨Nat.le_of_ble_eq_true rfl, Nat.le_of_ble_eq_true rfl⟩ (c_fail hR (q := q) (by omega) hk.2.2.1 (r32 (by decide) (by decide))) x_d (k_d1 ?_)
  exact j_zret dX8_checkDigits_14 rfl (Or.inl rfl) (⟨rfl, rfl, rfl⟩)

set_option maxRecDepth 20000 in
theorem c_dig3 {w : Wd} {sh : Shp} {g : Mem} {R tx : Nat} (hR : RdS sh.1 R tx) {T : Tx} (hX : TxR g R tx T) {q : Nat} (hk : TokR g R T q) (hq : q ≤ T.2) {mo : Nat} (hmo : mo ≤ 10) (hd : dn T q ≠ 0) (hr : ¬ dn T q ≤ mo) : CT w mX8_checkDigits [.ref (R), .int (i32 ((mo : Int)))] sh g (dQ (some (.int (i32 0))) sh (flM g R (-3) q)) := by
  have hT7 := hX.1
  have hTb := hX.2.2.2
  have hsz := szT_le hTb hq
  have hkr := kdT_r (T := T) q
  have hkd := (kd_D hTb).mpr hd
  have hs := sz_D hTb hd
  refine j_entry (by decide) rfl (Nat.le_of_ble_eq_true rfl) (fun h => by cases h) rfl ?_
  show J w mX8_checkDigits 0 [(0, .ref (R)), (1, .int (i32 ((mo : Int))))] [] sh g 0 0 _
  refine j_aload_n 1 0 dX8_checkDigits_0 rfl rfl ?_
  refine j_geti 4 dX8_checkDigits_1 rfl fl_X8_52 hR.rd rfl rfl (fun r_1 => ?_)
  refine j_top (y := kdT T q) (hk.2.1) ?_
  refine j_iconst 5 dX8_checkDigits_4 rfl ?_
  refine j_icmp_eq 8 15 dX8_checkDigits_5 rfl rfl ⟨by omega, by omega⟩ (r32 (by decide) (by decide)) (fun c_5 => ?_) (fun c_5 => absurd c_5 (by omega))
  refine j_aload_n 16 0 dX8_checkDigits_15 rfl rfl ?_
  refine j_geti 19 dX8_checkDigits_16 rfl fl_X8_187 hR.rd rfl rfl (fun r_16 => ?_)
  refine j_top (y := (szT T q : Int)) (hk.2.2.2.1) ?_
  refine j_iload_n 20 1 dX8_checkDigits_19 rfl rfl ?_
  refine j_icmp_le 23 30 dX8_checkDigits_20 rfl rfl (r32 (by omega) (by omega)) (r32 (by omega) (by omega)) (fun c_20 => absurd c_20 (by omega)) (fun c_20 => ?_)
  refine j_aload_n 24 0 dX8_checkDigits_23 rfl rfl ?_
  refine j_bipush 26 dX8_checkDigits_24 rfl (by decide) ?_
  refine j_callV 29 (As := [.int (i32 (-3))]) (kc2 := 0) (ks2 := 0) dX8_checkDigits_26 rfl mvX8_fail lk_X8_67 hR.rd rfl ⟨Nat.le_of_ble_eq_true rfl, rfl⟩ rfl rfl (Nat.le_of_ble_eq_true rfl) ⟨Nat.le_of_ble_eq_true rfl, Nat.le_of_ble_eq_true rfl⟩ ⟨Nat.le_of_ble_eq_true rfl, Nat.le_of_ble_eq_true rfl⟩ (c_fail hR (q := q) (by omega) hk.2.2.1 (r32 (by decide) (by decide))) x_d (k_d1 ?_)
  exact j_zret dX8_checkDigits_29 rfl (Or.inl rfl) (⟨rfl, rfl, rfl⟩)

set_option maxRecDepth 20000 in
theorem c_nam1 {w : Wd} {sh : Shp} {g : Mem} {R tx : Nat} (hR : RdS sh.1 R tx) {T : Tx} (hX : TxR g R tx T) {q : Nat} (hk : TokR g R T q) (hq : q ≤ T.2) (hd : ln T q ≠ 0) (hr : ln T q ≤ 8) : CT w mX8_checkName [.ref (R)] sh g (dQ (some (.int (i32 (1)))) sh g) := by
  have hT7 := hX.1
  have hTb := hX.2.2.2
  have hsz := szT_le hTb hq
  have hkr := kdT_r (T := T) q
  have hkd := (kd_L hTb).mpr hd
  have hs := sz_L hTb hd
  refine j_entry (by decide) rfl (Nat.le_of_ble_eq_true rfl) (fun h => by cases h) rfl ?_
  show J w mX8_checkName 0 [(0, .ref (R))] [] sh g 0 0 _
  refine j_aload_n 1 0 dX8_checkName_0 rfl rfl ?_
  refine j_geti 4 dX8_checkName_1 rfl fl_X8_52 hR.rd rfl rfl (fun r_1 => ?_)
  refine j_top (y := kdT T q) (hk.2.1) ?_
  refine j_iconst 5 dX8_checkName_4 rfl ?_
  refine j_icmp_eq 8 15 dX8_checkName_5 rfl rfl ⟨by omega, by omega⟩ (r32 (by decide) (by decide)) (fun c_5 => ?_) (fun c_5 => absurd c_5 (by omega))
  refine j_aload_n 16 0 dX8_checkName_15 rfl rfl ?_
  refine j_geti 19 dX8_checkName_16 rfl fl_X8_187 hR.rd rfl rfl (fun r_16 => ?_)
  refine j_top (y := (szT T q : Int)) (hk.2.2.2.1) ?_
  refine j_bipush 21 dX8_checkName_19 rfl (by decide) ?_
  refine j_icmp_le 24 31 dX8_checkName_21 rfl rfl (r32 (by omega) (by omega)) (r32 (by decide) (by decide)) (fun c_21 => ?_) (fun c_21 => absurd c_21 (by omega))
  refine j_iconst 32 dX8_checkName_31 rfl ?_
  exact j_zret dX8_checkName_32 rfl (Or.inr rfl) (⟨rfl, rfl, rfl⟩)

set_option maxRecDepth 20000 in
theorem c_nam2 {w : Wd} {sh : Shp} {g : Mem} {R tx : Nat} (hR : RdS sh.1 R tx) {T : Tx} (hX : TxR g R tx T) {q : Nat} (hk : TokR g R T q) (hq : q ≤ T.2) (hd : ln T q = 0) : CT w mX8_checkName [.ref (R)] sh g (dQ (some (.int (i32 0))) sh (flM g R (-2) q)) := by
  have hT7 := hX.1
  have hTb := hX.2.2.2
  have hsz := szT_le hTb hq
  have hkr := kdT_r (T := T) q
  have hkd : kdT T q ≠ 2 := fun z => (kd_L hTb).mp z hd
  refine j_entry (by decide) rfl (Nat.le_of_ble_eq_true rfl) (fun h => by cases h) rfl ?_
  show J w mX8_checkName 0 [(0, .ref (R))] [] sh g 0 0 _
  refine j_aload_n 1 0 dX8_checkName_0 rfl rfl ?_
  refine j_geti 4 dX8_checkName_1 rfl fl_X8_52 hR.rd rfl rfl (fun r_1 => ?_)
  refine j_top (y := kdT T q) (hk.2.1) ?_
  refine j_iconst 5 dX8_checkName_4 rfl ?_
  refine j_icmp_eq 8 15 dX8_checkName_5 rfl rfl ⟨by omega, by omega⟩ (r32 (by decide) (by decide)) (fun c_5 => absurd c_5 (by omega)) (fun c_5 => ?_)
  refine j_aload_n 9 0 dX8_checkName_8 rfl rfl ?_
  refine j_bipush 11 dX8_checkName_9 rfl (by decide) ?_
  refine j_callV 14 (As := [.int (i32 (-2))]) (kc2 := 0) (ks2 := 0) dX8_checkName_11 rfl mvX8_fail lk_X8_67 hR.rd rfl ⟨Nat.le_of_ble_eq_true rfl, rfl⟩ rfl rfl (Nat.le_of_ble_eq_true rfl) ⟨Nat.le_of_ble_eq_true rfl, Nat.le_of_ble_eq_true rfl⟩ ⟨Nat.le_of_ble_eq_true rfl, Nat.le_of_ble_eq_true rfl⟩ (c_fail hR (q := q) (by omega) hk.2.2.1 (r32 (by decide) (by decide))) x_d (k_d1 ?_)
  exact j_zret dX8_checkName_14 rfl (Or.inl rfl) (⟨rfl, rfl, rfl⟩)

set_option maxRecDepth 20000 in
theorem c_nam3 {w : Wd} {sh : Shp} {g : Mem} {R tx : Nat} (hR : RdS sh.1 R tx) {T : Tx} (hX : TxR g R tx T) {q : Nat} (hk : TokR g R T q) (hq : q ≤ T.2) (hd : ln T q ≠ 0) (hr : ¬ ln T q ≤ 8) : CT w mX8_checkName [.ref (R)] sh g (dQ (some (.int (i32 0))) sh (flM g R (-3) q)) := by
  have hT7 := hX.1
  have hTb := hX.2.2.2
  have hsz := szT_le hTb hq
  have hkr := kdT_r (T := T) q
  have hkd := (kd_L hTb).mpr hd
  have hs := sz_L hTb hd
  refine j_entry (by decide) rfl (Nat.le_of_ble_eq_true rfl) (fun h => by cases h) rfl ?_
  show J w mX8_checkName 0 [(0, .ref (R))] [] sh g 0 0 _
  refine j_aload_n 1 0 dX8_checkName_0 rfl rfl ?_
  refine j_geti 4 dX8_checkName_1 rfl fl_X8_52 hR.rd rfl rfl (fun r_1 => ?_)
  refine j_top (y := kdT T q) (hk.2.1) ?_
  refine j_iconst 5 dX8_checkName_4 rfl ?_
  refine j_icmp_eq 8 15 dX8_checkName_5 rfl rfl ⟨by omega, by omega⟩ (r32 (by decide) (by decide)) (fun c_5 => ?_) (fun c_5 => absurd c_5 (by omega))
  refine j_aload_n 16 0 dX8_checkName_15 rfl rfl ?_
  refine j_geti 19 dX8_checkName_16 rfl fl_X8_187 hR.rd rfl rfl (fun r_16 => ?_)
  refine j_top (y := (szT T q : Int)) (hk.2.2.2.1) ?_
  refine j_bipush 21 dX8_checkName_19 rfl (by decide) ?_
  refine j_icmp_le 24 31 dX8_checkName_21 rfl rfl (r32 (by omega) (by omega)) (r32 (by decide) (by decide)) (fun c_21 => absurd c_21 (by omega)) (fun c_21 => ?_)
  refine j_aload_n 25 0 dX8_checkName_24 rfl rfl ?_
  refine j_bipush 27 dX8_checkName_25 rfl (by decide) ?_
  refine j_callV 30 (As := [.int (i32 (-3))]) (kc2 := 0) (ks2 := 0) dX8_checkName_27 rfl mvX8_fail lk_X8_67 hR.rd rfl ⟨Nat.le_of_ble_eq_true rfl, rfl⟩ rfl rfl (Nat.le_of_ble_eq_true rfl) ⟨Nat.le_of_ble_eq_true rfl, Nat.le_of_ble_eq_true rfl⟩ ⟨Nat.le_of_ble_eq_true rfl, Nat.le_of_ble_eq_true rfl⟩ (c_fail hR (q := q) (by omega) hk.2.2.1 (r32 (by decide) (by decide))) x_d (k_d1 ?_)
  exact j_zret dX8_checkName_30 rfl (Or.inl rfl) (⟨rfl, rfl, rfl⟩)

set_option maxRecDepth 20000 in
theorem c_sem1 {w : Wd} {sh : Shp} {g : Mem} {R tx : Nat} (hR : RdS sh.1 R tx) {T : Tx} (hX : TxR g R tx T) {q : Nat} (hk : TokR g R T q) (hq : q ≤ T.2) (htx : tx ≠ R) (hd : byT T q = 59) : CT w mX8_passSemicolon [.ref (R)] sh g (dQ (some (.int (i32 1))) sh (advM g R T (q + 1))) := by
  have hT7 := hX.1
  have hTb := hX.2.2.2
  have hsz := szT_le hTb hq
  have hkr := kdT_r (T := T) q
  have hkd := (kd_S hTb).mpr hd
  have hs := sz_S hTb hd
  have h51 : g R 5 = ((q + 1 : Nat) : Int) := by rw [hk.1, hs]
  refine j_entry (by decide) rfl (Nat.le_of_ble_eq_true rfl) (fun h => by cases h) rfl ?_
  show J w mX8_passSemicolon 0 [(0, .ref (R))] [] sh g 0 0 _
  refine j_aload_n 1 0 dX8_passSemicolon_0 rfl rfl ?_
  refine j_geti 4 dX8_passSemicolon_1 rfl fl_X8_52 hR.rd rfl rfl (fun r_1 => ?_)
  refine j_top (y := kdT T q) (hk.2.1) ?_
  refine j_iconst 5 dX8_passSemicolon_4 rfl ?_
  refine j_icmp_eq 8 15 dX8_passSemicolon_5 rfl rfl ⟨by omega, by omega⟩ (r32 (by decide) (by decide)) (fun c_5 => ?_) (fun c_5 => absurd c_5 (by omega))
  refine j_aload_n 16 0 dX8_passSemicolon_15 rfl rfl ?_
  refine j_callV 19 (As := []) (kc2 := 0) (ks2 := 0) dX8_passSemicolon_16 rfl mvX8_advance lk_X8_45 hR.rd rfl ⟨Nat.le_of_ble_eq_true rfl, rfl⟩ rfl rfl (Nat.le_of_ble_eq_true rfl) ⟨Nat.le_of_ble_eq_true rfl, Nat.le_of_ble_eq_true rfl⟩ ⟨Nat.le_of_ble_eq_true rfl, Nat.le_of_ble_eq_true rfl⟩ (c_advance hR hX h51 (by omega) htx) x_d (k_d0 ?_)
  refine j_iconst 20 dX8_passSemicolon_19 rfl ?_
  exact j_zret dX8_passSemicolon_20 rfl (Or.inr rfl) (⟨rfl, rfl, rfl⟩)

set_option maxRecDepth 20000 in
theorem c_sem2 {w : Wd} {sh : Shp} {g : Mem} {R tx : Nat} (hR : RdS sh.1 R tx) {T : Tx} (hX : TxR g R tx T) {q : Nat} (hk : TokR g R T q) (hq : q ≤ T.2) (hd : byT T q ≠ 59) : CT w mX8_passSemicolon [.ref (R)] sh g (dQ (some (.int (i32 0))) sh (flM g R (-2) q)) := by
  have hT7 := hX.1
  have hTb := hX.2.2.2
  have hsz := szT_le hTb hq
  have hkr := kdT_r (T := T) q
  have hkd : kdT T q ≠ 3 := fun z => hd ((kd_S hTb).mp z)
  refine j_entry (by decide) rfl (Nat.le_of_ble_eq_true rfl) (fun h => by cases h) rfl ?_
  show J w mX8_passSemicolon 0 [(0, .ref (R))] [] sh g 0 0 _
  refine j_aload_n 1 0 dX8_passSemicolon_0 rfl rfl ?_
  refine j_geti 4 dX8_passSemicolon_1 rfl fl_X8_52 hR.rd rfl rfl (fun r_1 => ?_)
  refine j_top (y := kdT T q) (hk.2.1) ?_
  refine j_iconst 5 dX8_passSemicolon_4 rfl ?_
  refine j_icmp_eq 8 15 dX8_passSemicolon_5 rfl rfl ⟨by omega, by omega⟩ (r32 (by decide) (by decide)) (fun c_5 => absurd c_5 (by omega)) (fun c_5 => ?_)
  refine j_aload_n 9 0 dX8_passSemicolon_8 rfl rfl ?_
  refine j_bipush 11 dX8_passSemicolon_9 rfl (by decide) ?_
  refine j_callV 14 (As := [.int (i32 (-2))]) (kc2 := 0) (ks2 := 0) dX8_passSemicolon_11 rfl mvX8_fail lk_X8_67 hR.rd rfl ⟨Nat.le_of_ble_eq_true rfl, rfl⟩ rfl rfl (Nat.le_of_ble_eq_true rfl) ⟨Nat.le_of_ble_eq_true rfl, Nat.le_of_ble_eq_true rfl⟩ ⟨Nat.le_of_ble_eq_true rfl, Nat.le_of_ble_eq_true rfl⟩ (c_fail hR (q := q) (by omega) hk.2.2.1 (r32 (by decide) (by decide))) x_d (k_d1 ?_)
  exact j_zret dX8_passSemicolon_14 rfl (Or.inl rfl) (⟨rfl, rfl, rfl⟩)

set_option maxRecDepth 20000 in
theorem c_isWord {w : Wd} {sh : Shp} {g : Mem} {R tx : Nat} (hR : RdS sh.1 R tx) {T : Tx} (hX : TxR g R tx T) {q : Nat} (hk : TokR g R T q) (hq : q ≤ T.2) {i : Nat} (hi : i < 8) : CT w mX8_isWord [.ref (R), .ref (w.2.1 (100 + i))] sh g (dQ (some (.int (i32 (b01 (wdB T q i))))) sh g) := by
  have hT7 := hX.1
  have hTb := hX.2.2.2
  have hsz := szT_le hTb hq
  have hkr := kdT_r (T := T) q
  have hl8 := st_len_r hi
  have hl4 : 4 ≤ st_len.getD i 0 := (by decide : ∀ i, i < 8 → 4 ≤ st_len.getD i 0) i hi
  refine j_entry (by decide) rfl (Nat.le_of_ble_eq_true rfl) (fun h => by cases h) rfl ?_
  show J w mX8_isWord 0 [(0, .ref (R)), (1, .ref (w.2.1 (100 + i)))] [] sh g 0 0 _
  refine j_aload_n 1 0 dX8_isWord_0 rfl rfl ?_
  refine j_geti 4 dX8_isWord_1 rfl fl_X8_52 hR.rd rfl rfl (fun r_1 => ?_)
  refine j_top (y := kdT T q) (hk.2.1) ?_
  refine j_iconst 5 dX8_isWord_4 rfl ?_
  refine j_icmp_ne 8 19 dX8_isWord_5 rfl rfl ⟨by omega, by omega⟩ (r32 (by decide) (by decide)) (fun c_5 => ?_) (fun c_5 => ?_)
  · have hz : wdB T q i = false := by cases hw : wdB T q i; rfl; exact absurd ((kd_L hTb).mpr (by have := (wd_iff.mp hw).1; omega)) c_5
    refine j_iconst 20 dX8_isWord_19 rfl ?_
    exact j_zret dX8_isWord_20 rfl (Or.inl rfl) (q_i (by rw [hz]; rfl))
  · have hs := sz_L hTb ((kd_L hTb).mp c_5)
    refine j_aload_n 9 0 dX8_isWord_8 rfl rfl ?_
    refine j_geti 12 dX8_isWord_9 rfl fl_X8_187 hR.rd rfl rfl (fun r_9 => ?_)
    refine j_top (y := (szT T q : Int)) (hk.2.2.2.1) ?_
    refine j_aload_n 13 1 dX8_isWord_12 rfl rfl ?_
    refine j_callT 16 (i := i) (As := []) (kc2 := 0) (ks2 := 0) dX8_isWord_13 rfl mvJ0_length_8abf5 lk_X8_193 hi rfl rfl rfl (Nat.le_of_ble_eq_true rfl) ⟨Nat.le_of_ble_eq_true rfl, Nat.le_of_ble_eq_true rfl⟩ ⟨Nat.le_of_ble_eq_true rfl, Nat.le_of_ble_eq_true rfl⟩ (t_length hi) x_d (k_d1 ?_)
    refine j_icmp_eq 19 21 dX8_isWord_16 rfl rfl (r32 (by omega) (by omega)) (by have := st_len_r hi; exact ⟨by omega, by omega⟩) (fun c_16 => ?_) (fun c_16 => ?_)
    · refine j_iconst 22 dX8_isWord_21 rfl ?_
      refine j_istore_n 23 (L2 := [(2, .int (i32 (0))), (0, .ref (R)), (1, .ref (w.2.1 (100 + i)))]) dX8_isWord_22 rfl rfl (Nat.le_of_ble_eq_true rfl) rfl ?_
      suffices lp_23 : ∀ (n_23 : Nat) (k : Nat), st_len.getD i 0 - k < n_23 → k ≤ st_len.getD i 0 → (∀ j, j < k → byT T (q + j) = sc i j) → J w mX8_isWord 23 [(2, .int (i32 ((k : Int)))), (0, .ref (R)), (1, .ref (w.2.1 (100 + i)))] [] sh g 0 0 (dQ (some (.int (i32 (b01 (wdB T q i))))) sh g) by
        exact lp_23 _ 0 (Nat.lt_succ_self _) (by omega) (fun j hj => absurd hj (Nat.not_lt_zero j))
      intro n_23
      induction n_23 with
      | zero => intro k h_; exact absurd h_ (Nat.not_lt_zero _)
      | succ n_23 ih_23 =>
        intro k hn_23 hki hp
        refine j_iload_n 24 0 dX8_isWord_23 rfl rfl ?_
        refine j_aload_n 25 2 dX8_isWord_24 rfl rfl ?_
        refine j_callT 28 (i := i) (As := []) (kc2 := 0) (ks2 := 0) dX8_isWord_25 rfl mvJ0_length_8abf5 lk_X8_193 hi rfl rfl rfl (Nat.le_of_ble_eq_true rfl) ⟨Nat.le_of_ble_eq_true rfl, Nat.le_of_ble_eq_true rfl⟩ ⟨Nat.le_of_ble_eq_true rfl, Nat.le_of_ble_eq_true rfl⟩ (t_length hi) x_d (k_d1 ?_)
        refine j_icmp_ge 31 57 dX8_isWord_28 rfl rfl (r32 (by omega) (by omega)) (by have := st_len_r hi; exact ⟨by omega, by omega⟩) (fun c_28 => ?_) (fun c_28 => ?_)
        · refine j_iconst 58 dX8_isWord_57 rfl ?_
          exact j_zret dX8_isWord_58 rfl (Or.inr rfl) (q_i (by rw [show wdB T q i = true from wd_iff.mpr ⟨by omega, fun j hj => hp j (by omega)⟩]; rfl))
        · refine j_aload_n 32 1 dX8_isWord_31 rfl rfl ?_
          refine j_aload_n 33 1 dX8_isWord_32 rfl rfl ?_
          refine j_geti 36 dX8_isWord_33 rfl fl_X8_190 hR.rd rfl rfl (fun r_33 => ?_)
          refine j_top (y := (q : Int)) (hk.2.2.1) ?_
          refine j_iload_n 37 0 dX8_isWord_36 rfl rfl ?_
          refine j_iadd 38 dX8_isWord_37 rfl ?_
          refine j_top (y := ((q + k : Nat) : Int)) (by omega) ?_
          refine j_callV 41 (As := [.int (i32 (((q + k : Nat) : Int)))]) (kc2 := 0) (ks2 := 0) dX8_isWord_38 rfl mvX8_signAt lk_X8_199 hR.rd rfl ⟨Nat.le_of_ble_eq_true rfl, rfl⟩ rfl rfl (Nat.le_of_ble_eq_true rfl) ⟨Nat.le_of_ble_eq_true rfl, Nat.le_of_ble_eq_true rfl⟩ ⟨Nat.le_of_ble_eq_true rfl, Nat.le_of_ble_eq_true rfl⟩ (c_signAt hR hX (k := q + k) (by omega)) x_d (k_d1 ?_)
          refine j_aload_n 42 2 dX8_isWord_41 rfl rfl ?_
          refine j_iload_n 43 0 dX8_isWord_42 rfl rfl ?_
          refine j_callT 46 (i := i) (As := [.int (i32 ((k : Int)))]) (kc2 := 0) (ks2 := 0) dX8_isWord_43 rfl mvJ0_charAt_5068e lk_X8_202 hi rfl rfl rfl (Nat.le_of_ble_eq_true rfl) ⟨Nat.le_of_ble_eq_true rfl, Nat.le_of_ble_eq_true rfl⟩ ⟨Nat.le_of_ble_eq_true rfl, Nat.le_of_ble_eq_true rfl⟩ (t_charAt hi (show k < st_len.getD i 0 by omega)) x_d (k_d1 ?_)
          refine j_icmp_eq 49 51 dX8_isWord_46 rfl rfl (by have := sgn_r hTb (q + k); exact ⟨by omega, by omega⟩) (by have := sc_r i hi k (show k < st_len.getD i 0 by omega); exact ⟨by omega, by omega⟩) (fun c_46 => ?_) (fun c_46 => ?_)
          · refine j_iinc 54 0 (y := ((k + 1 : Nat) : Int)) (L2 := [(2, .int (i32 (((k + 1 : Nat) : Int)))), (0, .ref (R)), (1, .ref (w.2.1 (100 + i)))]) dX8_isWord_51 rfl rfl (by omega) (Nat.le_of_ble_eq_true rfl) rfl ?_
            refine j_goto 23 dX8_isWord_54 rfl ?_
            exact ih_23 (k + 1) (by omega) (by omega) (lt_step hp ((sgn_eq hTb (by have := sc_r i hi k (by omega); omega)).mp c_46))
          · have hz : wdB T q i = false := by cases hw : wdB T q i; rfl; exact absurd ((sgn_eq hTb (by have := sc_r i hi k (by omega); omega)).mpr ((wd_iff.mp hw).2 k (by omega))) c_46
            refine j_iconst 50 dX8_isWord_49 rfl ?_
            exact j_zret dX8_isWord_50 rfl (Or.inl rfl) (q_i (by rw [hz]; rfl))
    · have hz : wdB T q i = false := by cases hw : wdB T q i; rfl; exact absurd (wd_iff.mp hw).1 (by omega)
      refine j_iconst 20 dX8_isWord_19 rfl ?_
      exact j_zret dX8_isWord_20 rfl (Or.inl rfl) (q_i (by rw [hz]; rfl))

set_option maxRecDepth 20000 in
theorem c_tellLine {w : Wd} {sh : Shp} {g : Mem} {e : Nat} (hE : ExS sh.1 e) {c : Nat} (hc : g e 2 = (c : Int)) (hc12 : c < 12) {x : Int} (hx : R32 x) : CT w mX1_tellLine [.ref (e), .int (i32 (x))] sh g (dQ none sh (up2 (up2 g (e + 1) c x) e 2 ((c : Int) + 1))) := by
  refine j_entry (by decide) rfl (Nat.le_of_ble_eq_true rfl) (fun h => by cases h) rfl ?_
  show J w mX1_tellLine 0 [(0, .ref (e)), (1, .int (i32 (x)))] [] sh g 0 0 _
  refine j_aload_n 1 0 dX1_tellLine_0 rfl rfl ?_
  refine j_geti 4 dX1_tellLine_1 rfl fl_X1_62 hE.ex rfl rfl (fun r_1 => ?_)
  refine j_top (y := (c : Int)) (hc) ?_
  refine j_if_lt 7 39 dX1_tellLine_4 rfl rfl (r32 (by omega) (by omega)) (fun c_4 => absurd c_4 (by omega)) (fun c_4 => ?_)
  refine j_aload_n 8 0 dX1_tellLine_7 rfl rfl ?_
  refine j_geti 11 dX1_tellLine_8 rfl fl_X1_62 hE.ex rfl rfl (fun r_8 => ?_)
  refine j_top (y := (c : Int)) (hc) ?_
  refine j_aload_n 12 0 dX1_tellLine_11 rfl rfl ?_
  refine j_getr 15 dX1_tellLine_12 rfl fl_X1_9 hE.ex rfl (fun _ _ => rfl) rfl ?_
  refine j_alen 16 dX1_tellLine_15 rfl hE.num (Nat.le_of_ble_eq_true rfl) rfl ?_
  refine j_top (y := 12) rfl ?_
  refine j_icmp_ge 19 39 dX1_tellLine_16 rfl rfl (r32 (by omega) (by omega)) (r32 (by decide) (by decide)) (fun c_16 => absurd c_16 (by omega)) (fun c_16 => ?_)
  refine j_aload_n 20 0 dX1_tellLine_19 rfl rfl ?_
  refine j_getr 23 dX1_tellLine_20 rfl fl_X1_9 hE.ex rfl (fun _ _ => rfl) rfl ?_
  refine j_aload_n 24 0 dX1_tellLine_23 rfl rfl ?_
  refine j_geti 27 dX1_tellLine_24 rfl fl_X1_62 hE.ex rfl rfl (fun r_24 => ?_)
  refine j_top (y := (c : Int)) (hc) ?_
  refine j_iload_n 28 1 dX1_tellLine_27 rfl rfl ?_
  refine j_iast 29 ((c : Int)).toNat dX1_tellLine_28 rfl hE.num rfl (by omega) (show ((c : Int)).toNat < 12 by omega) hx ?_
  refine j_mn (fun g_28 hg_28 => ?_)
  refine j_aload_n 30 0 dX1_tellLine_29 rfl rfl ?_
  refine j_dup 31 dX1_tellLine_30 rfl rfl ?_
  refine j_geti 34 dX1_tellLine_31 rfl fl_X1_62 hE.ex rfl rfl (fun r_31 => ?_)
  refine j_top (y := (c : Int)) ((by rw [hg_28, up2_a (by omega)]; exact hc)) ?_
  refine j_iconst 35 dX1_tellLine_34 rfl ?_
  refine j_iadd 36 dX1_tellLine_35 rfl ?_
  refine j_puti 39 dX1_tellLine_36 rfl fl_X1_62 hE.ex rfl rfl rfl (r32 (by omega) (by omega)) ?_
  refine j_mn (fun g_36 hg_36 => ?_)
  exact j_vret dX1_tellLine_39 rfl (q_m (by rw [hg_36, hg_28, Int.toNat_natCast]))

set_option maxRecDepth 20000 in
theorem c_tellG {w : Wd} {sh : Shp} {g : Mem} {a : Nat} (ha : sh.1 a = some (2, 0, kN)) {x y z : Int} (hx : -9223372036854775808 ≤ x ∧ x < 9223372036854775808) (hy : R32 y) (hz : R32 z) : CT w mX2_tell [.ref (a), .long (i64 (x)), .int (i32 (y)), .int (i32 (z))] sh g (dQ none sh (up2 (up2 (up2 (up2 (up2 (up2 (up2 g (a) 1 x) (a) 2 y) (a) 3 z) (a) 4 0) (a) 5 0) (a) 6 0) (a) 7 0)) := by
  refine j_entry (by decide) rfl (Nat.le_of_ble_eq_true rfl) (fun h => by cases h) rfl ?_
  show J w mX2_tell 0 [(0, .ref (a)), (1, .long (i64 (x))), (3, .int (i32 (y))), (4, .int (i32 (z)))] [] sh g 0 0 _
  refine j_aload_n 1 0 dX2_tell_0 rfl rfl ?_
  refine j_lload_n 2 1 dX2_tell_1 rfl rfl ?_
  refine j_putl 5 dX2_tell_2 rfl fl_X2_13 ha rfl rfl rfl (by omega) ?_
  refine j_mn (fun g_2 hg_2 => ?_)
  refine j_aload_n 6 0 dX2_tell_5 rfl rfl ?_
  refine j_iload_n 7 2 dX2_tell_6 rfl rfl ?_
  refine j_puti 10 dX2_tell_7 rfl fl_X2_17 ha rfl rfl rfl hy ?_
  refine j_mn (fun g_7 hg_7 => ?_)
  refine j_aload_n 11 0 dX2_tell_10 rfl rfl ?_
  refine j_iload 13 3 dX2_tell_11 rfl rfl ?_
  refine j_puti 16 dX2_tell_13 rfl fl_X2_20 ha rfl rfl rfl hz ?_
  refine j_mn (fun g_13 hg_13 => ?_)
  refine j_aload_n 17 0 dX2_tell_16 rfl rfl ?_
  refine j_iconst 18 dX2_tell_17 rfl ?_
  refine j_puti 21 dX2_tell_18 rfl fl_X2_23 ha rfl rfl rfl (r32 (by decide) (by decide)) ?_
  refine j_mn (fun g_18 hg_18 => ?_)
  refine j_aload_n 22 0 dX2_tell_21 rfl rfl ?_
  refine j_iconst 23 dX2_tell_22 rfl ?_
  refine j_puti 26 dX2_tell_23 rfl fl_X2_26 ha rfl rfl rfl (r32 (by decide) (by decide)) ?_
  refine j_mn (fun g_23 hg_23 => ?_)
  refine j_aload_n 27 0 dX2_tell_26 rfl rfl ?_
  refine j_iconst 28 dX2_tell_27 rfl ?_
  refine j_puti 31 dX2_tell_28 rfl fl_X2_29 ha rfl rfl rfl (r32 (by decide) (by decide)) ?_
  refine j_mn (fun g_28 hg_28 => ?_)
  refine j_aload_n 32 0 dX2_tell_31 rfl rfl ?_
  refine j_iconst 33 dX2_tell_32 rfl ?_
  refine j_puti 36 dX2_tell_33 rfl fl_X2_32 ha rfl rfl rfl (r32 (by decide) (by decide)) ?_
  refine j_mn (fun g_33 hg_33 => ?_)
  exact j_vret dX2_tell_36 rfl (q_m (by simp only [*]))

set_option maxRecDepth 20000 in
theorem c_tellGroup {w : Wd} {sh : Shp} {g : Mem} {e : Nat} (hE : ExS sh.1 e) {c : Nat} (hc : g e 3 = (c : Int)) (hc5 : c < 5) {x y z : Int} (hx : -9223372036854775808 ≤ x ∧ x < 9223372036854775808) (hy : R32 y) (hz : R32 z) : CT w mX1_tellGroup [.ref (e), .long (i64 (x)), .int (i32 (y)), .int (i32 (z))] sh g (dQ none sh (up2 (up2 (up2 (up2 (up2 (up2 (up2 (up2 g (e + 3 + c) 1 x) (e + 3 + c) 2 y) (e + 3 + c) 3 z) (e + 3 + c) 4 0) (e + 3 + c) 5 0) (e + 3 + c) 6 0) (e + 3 + c) 7 0) e 3 ((c : Int) + 1))) := by
  refine j_entry (by decide) rfl (Nat.le_of_ble_eq_true rfl) (fun h => by cases h) rfl ?_
  show J w mX1_tellGroup 0 [(0, .ref (e)), (1, .long (i64 (x))), (3, .int (i32 (y))), (4, .int (i32 (z)))] [] sh g 0 0 _
  refine j_aload_n 1 0 dX1_tellGroup_0 rfl rfl ?_
  refine j_geti 4 dX1_tellGroup_1 rfl fl_X1_65 hE.ex rfl rfl (fun r_1 => ?_)
  refine j_top (y := (c : Int)) (hc) ?_
  refine j_if_lt 7 45 dX1_tellGroup_4 rfl rfl (r32 (by omega) (by omega)) (fun c_4 => absurd c_4 (by omega)) (fun c_4 => ?_)
  refine j_aload_n 8 0 dX1_tellGroup_7 rfl rfl ?_
  refine j_geti 11 dX1_tellGroup_8 rfl fl_X1_65 hE.ex rfl rfl (fun r_8 => ?_)
  refine j_top (y := (c : Int)) (hc) ?_
  refine j_aload_n 12 0 dX1_tellGroup_11 rfl rfl ?_
  refine j_getr 15 dX1_tellGroup_12 rfl fl_X1_17 hE.ex rfl (fun _ _ => rfl) rfl ?_
  refine j_alen 16 dX1_tellGroup_15 rfl hE.grs (Nat.le_of_ble_eq_true rfl) rfl ?_
  refine j_top (y := 5) rfl ?_
  refine j_icmp_ge 19 45 dX1_tellGroup_16 rfl rfl (r32 (by omega) (by omega)) (r32 (by decide) (by decide)) (fun c_16 => absurd c_16 (by omega)) (fun c_16 => ?_)
  refine j_aload_n 20 0 dX1_tellGroup_19 rfl rfl ?_
  refine j_getr 23 dX1_tellGroup_20 rfl fl_X1_17 hE.ex rfl (fun _ _ => rfl) rfl ?_
  refine j_aload_n 24 0 dX1_tellGroup_23 rfl rfl ?_
  refine j_geti 27 dX1_tellGroup_24 rfl fl_X1_65 hE.ex rfl rfl (fun r_24 => ?_)
  refine j_top (y := (c : Int)) (hc) ?_
  refine j_aald 28 ((c : Int)).toNat dX1_tellGroup_27 rfl hE.grs (Nat.le_of_ble_eq_true rfl) rfl rfl (by omega) (show ((c : Int)).toNat < 5 by omega) rfl ?_
  refine j_lload_n 29 1 dX1_tellGroup_28 rfl rfl ?_
  refine j_iload_n 30 2 dX1_tellGroup_29 rfl rfl ?_
  refine j_iload 32 3 dX1_tellGroup_30 rfl rfl ?_
  refine j_callV 35 (As := [.long (i64 (x)), .int (i32 (y)), .int (i32 (z))]) (kc2 := 0) (ks2 := 0) dX1_tellGroup_32 rfl mvX2_tell lk_X1_121 (hE.gr ((c : Int)).toNat (show ((c : Int)).toNat < 5 by omega)) rfl ⟨Nat.le_of_ble_eq_true rfl, rfl⟩ rfl rfl (Nat.le_of_ble_eq_true rfl) ⟨Nat.le_of_ble_eq_true rfl, Nat.le_of_ble_eq_true rfl⟩ ⟨Nat.le_of_ble_eq_true rfl, Nat.le_of_ble_eq_true rfl⟩ (c_tellG (hE.gr c hc5) hx hy hz) x_d (k_d0 ?_)
  refine j_aload_n 36 0 dX1_tellGroup_35 rfl rfl ?_
  refine j_dup 37 dX1_tellGroup_36 rfl rfl ?_
  refine j_geti 40 dX1_tellGroup_37 rfl fl_X1_65 hE.ex rfl rfl (fun r_37 => ?_)
  refine j_top (y := (c : Int)) ((by rw [up2_a (by omega), up2_a (by omega), up2_a (by omega), up2_a (by omega), up2_a (by omega), up2_a (by omega), up2_a (by omega)]; exact hc)) ?_
  refine j_iconst 41 dX1_tellGroup_40 rfl ?_
  refine j_iadd 42 dX1_tellGroup_41 rfl ?_
  refine j_puti 45 dX1_tellGroup_42 rfl fl_X1_65 hE.ex rfl rfl rfl (r32 (by omega) (by omega)) ?_
  refine j_mn (fun g_42 hg_42 => ?_)
  exact j_vret dX1_tellGroup_45 rfl (q_m hg_42)

set_option maxRecDepth 20000 in
theorem c_tellR {w : Wd} {sh : Shp} {g : Mem} {a b : Nat} (ha : sh.1 a = some (kRt b)) {x y : Int} (hx : R32 x) (hy : R32 y) : CT w mX6_tell [.ref (a), .int (i32 (x)), .int (i32 (y))] sh g (dQ none sh (up2 (up2 (up2 g (a) 1 x) (a) 2 y) (a) 3 0)) := by
  refine j_entry (by decide) rfl (Nat.le_of_ble_eq_true rfl) (fun h => by cases h) rfl ?_
  show J w mX6_tell 0 [(0, .ref (a)), (1, .int (i32 (x))), (2, .int (i32 (y)))] [] sh g 0 0 _
  refine j_aload_n 1 0 dX6_tell_0 rfl rfl ?_
  refine j_iload_n 2 1 dX6_tell_1 rfl rfl ?_
  refine j_puti 5 dX6_tell_2 rfl fl_X6_19 ha rfl rfl rfl hx ?_
  refine j_mn (fun g_2 hg_2 => ?_)
  refine j_aload_n 6 0 dX6_tell_5 rfl rfl ?_
  refine j_iload_n 7 2 dX6_tell_6 rfl rfl ?_
  refine j_puti 10 dX6_tell_7 rfl fl_X6_22 ha rfl rfl rfl hy ?_
  refine j_mn (fun g_7 hg_7 => ?_)
  refine j_aload_n 11 0 dX6_tell_10 rfl rfl ?_
  refine j_iconst 12 dX6_tell_11 rfl ?_
  refine j_puti 15 dX6_tell_12 rfl fl_X6_25 ha rfl rfl rfl (r32 (by decide) (by decide)) ?_
  refine j_mn (fun g_12 hg_12 => ?_)
  exact j_vret dX6_tell_15 rfl (q_m (by simp only [*]))

set_option maxRecDepth 20000 in
theorem c_tellRoute {w : Wd} {sh : Shp} {g : Mem} {e : Nat} (hE : ExS sh.1 e) {c : Nat} (hc : g e 4 = (c : Int)) (hc8 : c < 8) {x y : Int} (hx : R32 x) (hy : R32 y) : CT w mX1_tellRoute [.ref (e), .int (i32 (x)), .int (i32 (y))] sh g (dQ (some (.ref (e + 9 + 2 * c))) sh (up2 (up2 (up2 (up2 g (e + 9 + 2 * c) 1 x) (e + 9 + 2 * c) 2 y) (e + 9 + 2 * c) 3 0) e 4 ((c : Int) + 1))) := by
  refine j_entry (by decide) rfl (Nat.le_of_ble_eq_true rfl) (fun h => by cases h) rfl ?_
  show J w mX1_tellRoute 0 [(0, .ref (e)), (1, .int (i32 (x))), (2, .int (i32 (y)))] [] sh g 0 0 _
  refine j_aload_n 1 0 dX1_tellRoute_0 rfl rfl ?_
  refine j_geti 4 dX1_tellRoute_1 rfl fl_X1_68 hE.ex rfl rfl (fun r_1 => ?_)
  refine j_top (y := (c : Int)) (hc) ?_
  refine j_if_lt 7 19 dX1_tellRoute_4 rfl rfl (r32 (by omega) (by omega)) (fun c_4 => absurd c_4 (by omega)) (fun c_4 => ?_)
  refine j_aload_n 8 0 dX1_tellRoute_7 rfl rfl ?_
  refine j_geti 11 dX1_tellRoute_8 rfl fl_X1_68 hE.ex rfl rfl (fun r_8 => ?_)
  refine j_top (y := (c : Int)) (hc) ?_
  refine j_aload_n 12 0 dX1_tellRoute_11 rfl rfl ?_
  refine j_getr 15 dX1_tellRoute_12 rfl fl_X1_26 hE.ex rfl (fun _ _ => rfl) rfl ?_
  refine j_alen 16 dX1_tellRoute_15 rfl hE.rts (Nat.le_of_ble_eq_true rfl) rfl ?_
  refine j_top (y := 8) rfl ?_
  refine j_icmp_lt 19 21 dX1_tellRoute_16 rfl rfl (r32 (by omega) (by omega)) (r32 (by decide) (by decide)) (fun c_16 => ?_) (fun c_16 => absurd c_16 (by omega))
  refine j_aload_n 22 0 dX1_tellRoute_21 rfl rfl ?_
  refine j_getr 25 dX1_tellRoute_22 rfl fl_X1_26 hE.ex rfl (fun _ _ => rfl) rfl ?_
  refine j_aload_n 26 0 dX1_tellRoute_25 rfl rfl ?_
  refine j_geti 29 dX1_tellRoute_26 rfl fl_X1_68 hE.ex rfl rfl (fun r_26 => ?_)
  refine j_top (y := (c : Int)) (hc) ?_
  refine j_aald 30 ((c : Int)).toNat dX1_tellRoute_29 rfl hE.rts (Nat.le_of_ble_eq_true rfl) rfl rfl (by omega) (show ((c : Int)).toNat < 8 by omega) rfl ?_
  refine j_astore_n 31 (L2 := [(3, .ref (e + 9 + 2 * ((c : Int)).toNat)), (0, .ref (e)), (1, .int (i32 (x))), (2, .int (i32 (y)))]) dX1_tellRoute_30 rfl rfl (Nat.le_of_ble_eq_true rfl) rfl ?_
  refine j_aload_n 32 0 dX1_tellRoute_31 rfl rfl ?_
  refine j_iload_n 33 2 dX1_tellRoute_32 rfl rfl ?_
  refine j_iload_n 34 3 dX1_tellRoute_33 rfl rfl ?_
  refine j_callV 37 (As := [.int (i32 (x)), .int (i32 (y))]) (kc2 := 0) (ks2 := 0) dX1_tellRoute_34 rfl mvX6_tell lk_X1_125 (hE.rt ((c : Int)).toNat (show ((c : Int)).toNat < 8 by omega)) rfl ⟨Nat.le_of_ble_eq_true rfl, rfl⟩ rfl rfl (Nat.le_of_ble_eq_true rfl) ⟨Nat.le_of_ble_eq_true rfl, Nat.le_of_ble_eq_true rfl⟩ ⟨Nat.le_of_ble_eq_true rfl, Nat.le_of_ble_eq_true rfl⟩ (c_tellR (hE.rt c hc8) hx hy) x_d (k_d0 ?_)
  refine j_aload_n 38 1 dX1_tellRoute_37 rfl rfl ?_
  refine j_dup 39 dX1_tellRoute_38 rfl rfl ?_
  refine j_geti 42 dX1_tellRoute_39 rfl fl_X1_68 hE.ex rfl rfl (fun r_39 => ?_)
  refine j_top (y := (c : Int)) ((by rw [up2_a (by omega), up2_a (by omega), up2_a (by omega)]; exact hc)) ?_
  refine j_iconst 43 dX1_tellRoute_42 rfl ?_
  refine j_iadd 44 dX1_tellRoute_43 rfl ?_
  refine j_puti 47 dX1_tellRoute_44 rfl fl_X1_68 hE.ex rfl rfl rfl (r32 (by omega) (by omega)) ?_
  refine j_mn (fun g_44 hg_44 => ?_)
  refine j_aload_n 48 0 dX1_tellRoute_47 rfl rfl ?_
  exact j_aret dX1_tellRoute_48 rfl (⟨rfl, rfl, hg_44⟩)

set_option maxRecDepth 20000 in
theorem c_addCh {w : Wd} {sh : Shp} {g : Mem} {a b : Nat} (ha : sh.1 a = some (kRt b)) (hb : sh.1 b = some (10, 3, kN)) (hab : a ≠ b) {n : Nat} (hn : g a 3 = (n : Int)) (hn3 : n ≤ 3) (hn2 : n < 3) {x : Int} (hx : R32 x) : CT w mX6_addChoice [.ref (a), .int (i32 (x))] sh g (dQ none sh (up2 (up2 g b n x) a 3 ((n : Int) + 1))) := by
  refine j_entry (by decide) rfl (Nat.le_of_ble_eq_true rfl) (fun h => by cases h) rfl ?_
  show J w mX6_addChoice 0 [(0, .ref (a)), (1, .int (i32 (x)))] [] sh g 0 0 _
  refine j_aload_n 1 0 dX6_addChoice_0 rfl rfl ?_
  refine j_geti 4 dX6_addChoice_1 rfl fl_X6_25 ha rfl rfl (fun r_1 => ?_)
  refine j_top (y := (n : Int)) (hn) ?_
  refine j_if_lt 7 39 dX6_addChoice_4 rfl rfl (r32 (by omega) (by omega)) (fun c_4 => absurd c_4 (by omega)) (fun c_4 => ?_)
  refine j_aload_n 8 0 dX6_addChoice_7 rfl rfl ?_
  refine j_geti 11 dX6_addChoice_8 rfl fl_X6_25 ha rfl rfl (fun r_8 => ?_)
  refine j_top (y := (n : Int)) (hn) ?_
  refine j_aload_n 12 0 dX6_addChoice_11 rfl rfl ?_
  refine j_getr 15 dX6_addChoice_12 rfl fl_X6_15 ha rfl (fun _ _ => rfl) rfl ?_
  refine j_alen 16 dX6_addChoice_15 rfl hb (Nat.le_of_ble_eq_true rfl) rfl ?_
  refine j_top (y := 3) rfl ?_
  refine j_icmp_ge 19 39 dX6_addChoice_16 rfl rfl (r32 (by omega) (by omega)) (r32 (by decide) (by decide)) (fun c_16 => absurd c_16 (by omega)) (fun c_16 => ?_)
  refine j_aload_n 20 0 dX6_addChoice_19 rfl rfl ?_
  refine j_getr 23 dX6_addChoice_20 rfl fl_X6_15 ha rfl (fun _ _ => rfl) rfl ?_
  refine j_aload_n 24 0 dX6_addChoice_23 rfl rfl ?_
  refine j_geti 27 dX6_addChoice_24 rfl fl_X6_25 ha rfl rfl (fun r_24 => ?_)
  refine j_top (y := (n : Int)) (hn) ?_
  refine j_iload_n 28 1 dX6_addChoice_27 rfl rfl ?_
  refine j_iast 29 n dX6_addChoice_28 rfl hb rfl rfl (show n < 3 by omega) hx ?_
  refine j_mn (fun g_28 hg_28 => ?_)
  refine j_aload_n 30 0 dX6_addChoice_29 rfl rfl ?_
  refine j_dup 31 dX6_addChoice_30 rfl rfl ?_
  refine j_geti 34 dX6_addChoice_31 rfl fl_X6_25 ha rfl rfl (fun r_31 => ?_)
  refine j_top (y := (n : Int)) ((by rw [hg_28, up2_a hab]; exact hn)) ?_
  refine j_iconst 35 dX6_addChoice_34 rfl ?_
  refine j_iadd 36 dX6_addChoice_35 rfl ?_
  refine j_puti 39 dX6_addChoice_36 rfl fl_X6_25 ha rfl rfl rfl (r32 (by omega) (by omega)) ?_
  refine j_mn (fun g_36 hg_36 => ?_)
  exact j_vret dX6_addChoice_39 rfl (q_m (by rw [hg_36, hg_28]))

def hasC (f : Nat → Int) (x : Int) : Nat → Bool
  | 0 => false
  | n + 1 => hasC f x n || decide (f n = x)
theorem hasC_t {f : Nat → Int} {x : Int} {n k : Nat} (hk : k < n) (h : f k = x) : hasC f x n = true := by
  induction n with
  | zero => omega
  | succ n ih =>
    show (hasC f x n || decide (f n = x)) = true
    rcases Nat.lt_or_ge k n with q | q
    · rw [ih q]; rfl
    · rw [show n = k by omega, decide_eq_true h, Bool.or_true]
theorem hasC_f {f : Nat → Int} {x : Int} {n : Nat} (h : ∀ j, j < n → ¬ f j = x) : hasC f x n = false := by
  induction n with
  | zero => rfl
  | succ n ih =>
    show (hasC f x n || decide (f n = x)) = false
    rw [ih (fun j hj => h j (by omega)), decide_eq_false (h n (by omega))]; rfl

set_option maxRecDepth 20000 in
theorem c_hasCh {w : Wd} {sh : Shp} {g : Mem} {a b : Nat} (ha : sh.1 a = some (kRt b)) (hb : sh.1 b = some (10, 3, kN)) (hab : a ≠ b) {n : Nat} (hn : g a 3 = (n : Int)) (hn3 : n ≤ 3) {x : Int} (hx : R32 x) : CT w mX6_hasChoice [.ref (a), .int (i32 (x))] sh g (dQ (some (.int (i32 (b01 (hasC (g b) x n))))) sh g) := by
  refine j_entry (by decide) rfl (Nat.le_of_ble_eq_true rfl) (fun h => by cases h) rfl ?_
  show J w mX6_hasChoice 0 [(0, .ref (a)), (1, .int (i32 (x)))] [] sh g 0 0 _
  refine j_rgi hb rfl (fun hrr => ?_)
  have hcr : ∀ k : Nat, R32 (if 0 ≤ (k : Int) ∧ (k : Int) < g a 3 then g b (k : Int).toNat else -1) := fun k => (by split; exact hrr _; exact ⟨by decide, by decide⟩)
  refine j_iconst 1 dX6_hasChoice_0 rfl ?_
  refine j_istore_n 2 (L2 := [(2, .int (i32 (0))), (0, .ref (a)), (1, .int (i32 (x)))]) dX6_hasChoice_1 rfl rfl (Nat.le_of_ble_eq_true rfl) rfl ?_
  suffices lp_2 : ∀ (n_2 : Nat) (k : Nat), n - k < n_2 → k ≤ n → (∀ j, j < k → ¬ g b j = x) → J w mX6_hasChoice 2 [(2, .int (i32 ((k : Int)))), (0, .ref (a)), (1, .int (i32 (x)))] [] sh g 0 0 (dQ (some (.int (i32 (b01 (hasC (g b) x n))))) sh g) by
    exact lp_2 _ 0 (Nat.lt_succ_self _) (by omega) (fun j hj => absurd hj (Nat.not_lt_zero j))
  intro n_2
  induction n_2 with
  | zero => intro k h_; exact absurd h_ (Nat.not_lt_zero _)
  | succ n_2 ih_2 =>
    intro k hn_2 hk hp
    refine j_iload_n 3 0 dX6_hasChoice_2 rfl rfl ?_
    refine j_aload_n 4 1 dX6_hasChoice_3 rfl rfl ?_
    refine j_geti 7 dX6_hasChoice_4 rfl fl_X6_25 ha rfl rfl (fun r_4 => ?_)
    refine j_top (y := (n : Int)) (hn) ?_
    refine j_icmp_ge 10 27 dX6_hasChoice_7 rfl rfl (r32 (by omega) (by omega)) (r32 (by omega) (by omega)) (fun c_7 => ?_) (fun c_7 => ?_)
    · refine j_iconst 28 dX6_hasChoice_27 rfl ?_
      exact j_zret dX6_hasChoice_28 rfl (Or.inl rfl) (q_i (by rw [hasC_f (fun j hj => hp j (by omega))]; rfl))
    · refine j_aload_n 11 1 dX6_hasChoice_10 rfl rfl ?_
      refine j_iload_n 12 0 dX6_hasChoice_11 rfl rfl ?_
      refine j_callV 15 (As := [.int (i32 ((k : Int)))]) (kc2 := 0) (ks2 := 0) dX6_hasChoice_12 rfl mvX6_choiceAt lk_X6_28 ha rfl ⟨Nat.le_of_ble_eq_true rfl, rfl⟩ rfl rfl (Nat.le_of_ble_eq_true rfl) ⟨Nat.le_of_ble_eq_true rfl, Nat.le_of_ble_eq_true rfl⟩ ⟨Nat.le_of_ble_eq_true rfl, Nat.le_of_ble_eq_true rfl⟩ (c_choiceAt ha hb (by omega) (r32 (by omega) (by omega))) x_d (k_d1 ?_)
      refine j_iload_n 16 2 dX6_hasChoice_15 rfl rfl ?_
      have hv : (if 0 ≤ (k : Int) ∧ (k : Int) < g a 3 then g b (k : Int).toNat else -1) = g b k := by rw [if_pos (by omega), Int.toNat_natCast]
      refine j_icmp_ne 19 21 dX6_hasChoice_16 rfl rfl (hcr k) hx (fun c_16 => ?_) (fun c_16 => ?_)
      · refine j_iinc 24 0 (y := ((k + 1 : Nat) : Int)) (L2 := [(2, .int (i32 (((k + 1 : Nat) : Int)))), (0, .ref (a)), (1, .int (i32 (x)))]) dX6_hasChoice_21 rfl rfl (by omega) (Nat.le_of_ble_eq_true rfl) rfl ?_
        refine j_goto 2 dX6_hasChoice_24 rfl ?_
        exact ih_2 (k + 1) (by omega) (by omega) (lt_step hp (by rw [hv] at c_16; exact c_16))
      · refine j_iconst 20 dX6_hasChoice_19 rfl ?_
        exact j_zret dX6_hasChoice_20 rfl (Or.inr rfl) (q_i (by rw [hasC_t (k := k) (by omega) (by rw [hv] at c_16; exact c_16)]; rfl))

def cmpZ (a b : Int) : Int := if b < a then 1 else if a = b then 0 else -1
theorem cmpZ_ok {a b : Int} (ha : -9223372036854775808 ≤ a ∧ a < 9223372036854775808) (hb : -9223372036854775808 ≤ b ∧ b < 9223372036854775808) : lg_cmp (i64 a) (i64 b) = i32 (cmpZ a b) := by
  have h1 : i64 b < i64 a ↔ b < a := by rw [Int64.lt_iff_toInt_lt, i64_toInt ha.1 ha.2, i64_toInt hb.1 hb.2]
  have h2 : i64 a = i64 b ↔ a = b := ⟨fun h => by rw [← i64_toInt ha.1 ha.2, ← i64_toInt hb.1 hb.2, h], fun h => by rw [h]⟩
  unfold lg_cmp cmpZ
  by_cases c1 : b < a
  · rw [if_pos (h1.mpr c1), if_pos c1]; rfl
  · rw [if_neg (fun z => c1 (h1.mp z)), if_neg c1]
    by_cases c2 : a = b
    · rw [if_pos (h2.mpr c2), if_pos c2]; rfl
    · rw [if_neg (fun z => c2 (h2.mp z)), if_neg c2]; rfl
theorem cmpZ_r (a b : Int) : R32 (cmpZ a b) := by unfold cmpZ; split; exact ⟨by decide, by decide⟩; split <;> exact ⟨by decide, by decide⟩
theorem cmpZ_0 {a b : Int} : cmpZ a b = 0 ↔ a = b := by
  unfold cmpZ
  constructor
  · intro h
    split at h
    · omega
    · split at h
      · assumption
      · omega
  · intro h; rw [if_neg (by omega), if_pos h]

set_option maxRecDepth 20000 in
theorem c_groupNamed {w : Wd} {sh : Shp} {g : Mem} {e : Nat} (hE : ExS sh.1 e) (hI : ExI g e) {x : Int} (hx : -9223372036854775808 ≤ x ∧ x < 9223372036854775808) : CT w mX1_groupNamed [.ref (e), .long (i64 (x))] sh g (dQ (some (.int (i32 (x_groupNamed g e x)))) sh g) := by
  refine j_entry (by decide) rfl (Nat.le_of_ble_eq_true rfl) (fun h => by cases h) rfl ?_
  show J w mX1_groupNamed 0 [(0, .ref (e)), (1, .long (i64 (x)))] [] sh g 0 0 _
  refine j_aload_n 1 0 dX1_groupNamed_0 rfl rfl ?_
  refine j_getr 4 dX1_groupNamed_1 rfl fl_X1_17 hE.ex rfl (fun _ _ => rfl) rfl ?_
  refine j_astore_n 5 (L2 := [(3, .ref (e + 2)), (0, .ref (e)), (1, .long (i64 (x)))]) dX1_groupNamed_4 rfl rfl (Nat.le_of_ble_eq_true rfl) rfl ?_
  refine j_aload_n 6 0 dX1_groupNamed_5 rfl rfl ?_
  refine j_alen 7 dX1_groupNamed_6 rfl hE.grs (Nat.le_of_ble_eq_true rfl) rfl ?_
  refine j_top (y := 5) rfl ?_
  refine j_istore 9 (L2 := [(4, .int (i32 (5))), (3, .ref (e + 2)), (0, .ref (e)), (1, .long (i64 (x)))]) dX1_groupNamed_7 rfl (Nat.le_of_ble_eq_true rfl) rfl ?_
  refine j_iconst 10 dX1_groupNamed_9 rfl ?_
  refine j_istore 12 (L2 := [(5, .int (i32 (0))), (4, .int (i32 (5))), (3, .ref (e + 2)), (0, .ref (e)), (1, .long (i64 (x)))]) dX1_groupNamed_10 rfl (Nat.le_of_ble_eq_true rfl) rfl ?_
  suffices lp_12 : ∀ (n_12 : Nat) (k : Nat), 5 - k < n_12 → k ≤ 5 → (∀ j, j < k → (fun (i : Nat) => decide ((i : Int) < g e 3) && decide (g (e + 3 + i) 1 = x)) j = false) → J w mX1_groupNamed 12 [(5, .int (i32 ((k : Int)))), (4, .int (i32 (5))), (3, .ref (e + 2)), (0, .ref (e)), (1, .long (i64 (x)))] [] sh g 0 0 (dQ (some (.int (i32 (x_groupNamed g e x)))) sh g) by
    exact lp_12 _ 0 (Nat.lt_succ_self _) (by omega) (fun j hj => absurd hj (Nat.not_lt_zero j))
  intro n_12
  induction n_12 with
  | zero => intro k h_; exact absurd h_ (Nat.not_lt_zero _)
  | succ n_12 ih_12 =>
    intro k hn_12 hk hp
    refine j_iload 14 0 dX1_groupNamed_12 rfl rfl ?_
    refine j_iload 16 1 dX1_groupNamed_14 rfl rfl ?_
    refine j_icmp_ge 19 59 dX1_groupNamed_16 rfl rfl (r32 (by omega) (by omega)) (r32 (by decide) (by decide)) (fun c_16 => ?_) (fun c_16 => ?_)
    · refine j_iconst 60 dX1_groupNamed_59 rfl ?_
      exact j_iret dX1_groupNamed_60 rfl (q_i (fst_none (p := (fun (i : Nat) => decide ((i : Int) < g e 3) && decide (g (e + 3 + i) 1 = x))) (fun j hj => hp j (by omega))).symm)
    · refine j_aload_n 20 2 dX1_groupNamed_19 rfl rfl ?_
      refine j_iload 22 0 dX1_groupNamed_20 rfl rfl ?_
      refine j_aald 23 k dX1_groupNamed_22 rfl hE.grs (Nat.le_of_ble_eq_true rfl) rfl rfl rfl (show k < 5 by omega) rfl ?_
      refine j_astore 25 (L2 := [(6, .ref (e + 3 + k)), (5, .int (i32 ((k : Int)))), (4, .int (i32 (5))), (3, .ref (e + 2)), (0, .ref (e)), (1, .long (i64 (x)))]) dX1_groupNamed_23 rfl (Nat.le_of_ble_eq_true rfl) rfl ?_
      refine j_aload 27 0 dX1_groupNamed_25 rfl rfl ?_
      refine j_geti 30 dX1_groupNamed_27 rfl fl_X1_133 (hE.gr k (show k < 5 by omega)) rfl rfl (fun r_27 => ?_)
      refine j_top (y := (k : Int)) (hI.1 k (by omega)) ?_
      refine j_aload_n 31 4 dX1_groupNamed_30 rfl rfl ?_
      refine j_geti 34 dX1_groupNamed_31 rfl fl_X1_65 hE.ex rfl rfl (fun r_31 => ?_)
      refine j_icmp_ge 37 53 dX1_groupNamed_34 rfl rfl (r32 (by omega) (by omega)) r_31 (fun c_34 => ?_) (fun c_34 => ?_)
      · have hq : (fun (i : Nat) => decide ((i : Int) < g e 3) && decide (g (e + 3 + i) 1 = x)) k = false := by show (decide ((k : Int) < g e 3) && _) = false; rw [decide_eq_false (by omega)]; rfl
        refine j_iinc 56 1 (y := ((k + 1 : Nat) : Int)) (L2 := [(5, .int (i32 (((k + 1 : Nat) : Int)))), (6, .ref (e + 3 + k)), (4, .int (i32 (5))), (3, .ref (e + 2)), (0, .ref (e)), (1, .long (i64 (x)))]) dX1_groupNamed_53 rfl rfl (by omega) (Nat.le_of_ble_eq_true rfl) rfl ?_
        refine j_goto 12 dX1_groupNamed_56 rfl ?_
        refine j_sub [0, 2, 3, 4, 5] rfl ?_
        exact ih_12 (k + 1) (by omega) (by omega) (lt_step hp hq)
      · refine j_aload 39 0 dX1_groupNamed_37 rfl rfl ?_
        refine j_getl 42 dX1_groupNamed_39 rfl fl_X1_134 (hE.gr k (show k < 5 by omega)) rfl rfl (fun r_39 => ?_)
        refine j_lload_n 43 5 dX1_groupNamed_42 rfl rfl ?_
        refine j_lcmp 44 dX1_groupNamed_43 rfl ?_
        refine j_topI (y := cmpZ (g (e + 3 + k) 1) x) (cmpZ_ok r_39 hx) ?_
        refine j_if_ne 47 53 dX1_groupNamed_44 rfl rfl (cmpZ_r _ _) (fun c_44 => ?_) (fun c_44 => ?_)
        · have hq : (fun (i : Nat) => decide ((i : Int) < g e 3) && decide (g (e + 3 + i) 1 = x)) k = false := by show (_ && decide (g (e + 3 + k) 1 = x)) = false; rw [decide_eq_false (fun z => c_44 (cmpZ_0.mpr z)), Bool.and_false]
          refine j_iinc 56 1 (y := ((k + 1 : Nat) : Int)) (L2 := [(5, .int (i32 (((k + 1 : Nat) : Int)))), (6, .ref (e + 3 + k)), (4, .int (i32 (5))), (3, .ref (e + 2)), (0, .ref (e)), (1, .long (i64 (x)))]) dX1_groupNamed_53 rfl rfl (by omega) (Nat.le_of_ble_eq_true rfl) rfl ?_
          refine j_goto 12 dX1_groupNamed_56 rfl ?_
          refine j_sub [0, 2, 3, 4, 5] rfl ?_
          exact ih_12 (k + 1) (by omega) (by omega) (lt_step hp hq)
        · refine j_aload 49 0 dX1_groupNamed_47 rfl rfl ?_
          refine j_geti 52 dX1_groupNamed_49 rfl fl_X1_133 (hE.gr k (show k < 5 by omega)) rfl rfl (fun r_49 => ?_)
          refine j_top (y := (k : Int)) (hI.1 k (by omega)) ?_
          exact j_iret dX1_groupNamed_52 rfl (q_i (fst_hit (p := (fun (i : Nat) => decide ((i : Int) < g e 3) && decide (g (e + 3 + i) 1 = x))) (k := k) (by omega) hp (by show (decide ((k : Int) < g e 3) && decide (g (e + 3 + k) 1 = x)) = true; rw [decide_eq_true (by omega), decide_eq_true (cmpZ_0.mp c_44)]; rfl)).symm)

theorem rel_groupNamed {g : Mem} {e : Nat} {d : Nat → Int} (h : RelX g e d) (hP : PInv d) {hh t : Int} (hv : VN hh t) : x_groupNamed g e (nm27 hh t) = s_groupOf d hh t := fst_cong (fun k hk => by
  have h3 : g e 3 = d 3 := h.2.1.2.2.2.1
  rw [h3]
  by_cases q : (k : Int) < d 3
  · rw [decide_eq_true q, Bool.true_and, Bool.true_and, (h.2.2.2.1 k q).2.2.2.2.2.2]
    have hi := nm27_inj (hP.2.2.2.2.2.2.2.1 k q) hv
    by_cases z : d (57 + 9 * k) = hh ∧ d (58 + 9 * k) = t
    · rw [decide_eq_true (hi.mpr z), decide_eq_true z.1, decide_eq_true z.2]; rfl
    · rw [decide_eq_false (fun y => z (hi.mp y))]
      by_cases z1 : d (57 + 9 * k) = hh
      · rw [decide_eq_false (fun y => z ⟨z1, y⟩), Bool.and_false]
      · rw [decide_eq_false z1]; rfl
  · rw [decide_eq_false q]; rfl)
