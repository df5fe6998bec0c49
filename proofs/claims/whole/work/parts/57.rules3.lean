theorem q_gi {sh : Shp} {g g0 : Mem} {z z0 : Int} (h : z = z0) (hg : g = g0) : dQ (some (.int (i32 z0))) sh g0 (.inl (some (.int (i32 z)))) sh g := by rw [h, hg]; exact ⟨rfl, rfl, rfl⟩

/-! rule, dial and hang: what becomes of the row -/
def most (q : Int) : Int := if q = 19 then 40 else if q = 20 then 20 else if q = 21 then 9 else 0
theorem cmp_cong {d e : Nat → Int} {c : Nat} {many : Int} (h : ∀ i, i < 151 → i ≠ 5 → (i < 19 ∨ 21 < i) → e i = d i) (h1 : e (180 + 14 * c) = d (180 + 14 * c)) (h2 : e (170 + 14 * c) = d (170 + 14 * c)) : cmp e c many = cmp d c many := by
  have hlo : ∀ (a b : Int), s_lineOf e a b = s_lineOf d a b := fun a b => fst_cong (fun j hj => by rw [h 2 (by omega) (by omega) (by omega), h (26 + 2 * j) (by omega) (by omega) (by omega), h (27 + 2 * j) (by omega) (by omega) (by omega)])
  have hrf : ∀ (many : Nat) (y : Int) (n : Nat), n ≤ 8 → s_rfF e many y n = s_rfF d many y n := fun many y n => by
    induction n with
    | zero => intro _; rfl
    | succ n ih =>
      intro hn
      have hg := s_rfF_rng d many y n
      rw [s_rfF_s, s_rfF_s, ih (by omega), h 4 (by omega) (by omega) (by omega), h (95 + 7 * n) (by omega) (by omega) (by omega), h (96 + 7 * n) (by omega) (by omega) (by omega), h (95 + 7 * (s_rfF d many y n).toNat) (by omega) (by omega) (by omega)]
  unfold cmp s_isComplete s_dv s_routeFor
  have hg := s_rfF_rng d many.toNat (d (180 + 14 * c) / pw ((d (170 + 14 * c)).toNat - many.toNat)) 8
  rw [h1, h2, hlo, hrf _ _ 8 (Nat.le_refl 8), h (97 + 7 * (s_rfF d many.toNat (d (180 + 14 * c) / pw ((d (170 + 14 * c)).toNat - many.toNat)) 8).toNat) (by omega) (by omega) (by omega)]
/-- the row with another number of a rule -/
theorem Inv.rule {d : Nat → Int} (h : Inv d) {q : Nat} {v : Int} (hq : 19 ≤ q ∧ q ≤ 21) (h1 : 1 ≤ v) (h2 : v ≤ most q) : Inv (ud d q v) := by
  have hne : ∀ i, (i < 19 ∨ 21 < i) → ud d q v i = d i := fun i hi => ud_n (by omega)
  obtain ⟨⟨b0, b1, b2, b3, b4, b5, b6, b7, b8, b9⟩, ⟨c0, c1, c2, c3, c4, c5⟩, hr, hc, hm, hu⟩ := h
  have hcm : ∀ (c : Nat) (many : Int), cmp (ud d q v) c many = cmp d c many := fun c many => cmp_cong (fun i _ _ h3 => hne i h3) (hne _ (by omega)) (hne _ (by omega))
  refine ⟨⟨?_, ?_, ?_, ?_, ?_, ?_, fun r hr8 => ?_, fun r j hr8 hj => ?_, fun x hx => ?_, fun c hc4 => ?_⟩, ⟨?_, fun i hi => ?_, fun r hr4 => ?_, fun r j hr4 hj => ?_, fun c hc5 => ?_, fun x hx => ?_⟩, fun r hr4 => ?_, fun c hc5 => ?_, fun k hk => ?_, fun k k2 hk hk2 q1 q2 => ?_⟩
  · rw [hne 0 (by omega)]; exact b0
  · rw [hne 1 (by omega)]; exact b1
  · rw [hne 2 (by omega)]; exact b2
  · rw [hne 3 (by omega)]; exact b3
  · rw [hne 4 (by omega)]; exact b4
  · rw [hne 5 (by omega)]; exact b5
  · rw [hne _ (by omega), hne _ (by omega)]; exact b6 r hr8
  · rw [hne _ (by omega)] at hj; rw [hne _ (by omega)]; exact b7 r j hr8 hj
  · rw [hne _ (by omega)]; exact b8 x hx
  · rw [hne _ (by omega), hne _ (by omega)]; exact b9 c hc4
  · obtain ⟨g1, g2, g3, g4, g5, g6, g7, g8⟩ := c0
    rw [hne 0 (by omega), hne 1 (by omega)]
    unfold most at h2
    refine ⟨g1, g2, ?_⟩
    by_cases e19 : q = 19
    · subst e19; have h2 : v ≤ 40 := h2; rw [ud_s, ud_n (by omega), ud_n (by omega)]; exact ⟨h1, h2, g5, g6, g7, g8⟩
    · by_cases e20 : q = 20
      · subst e20; have h2 : v ≤ 20 := h2; rw [ud_s, ud_n (by omega), ud_n (by omega)]; exact ⟨g3, g4, h1, h2, g7, g8⟩
      · have e21 : q = 21 := by omega
        subst e21; have h2 : v ≤ 9 := h2; rw [ud_s, ud_n (by omega), ud_n (by omega)]; exact ⟨g3, g4, g5, g6, h1, h2⟩
  · rw [hne 2 (by omega)] at hi; rw [hne _ (by omega), hne _ (by omega)]; exact c1 i hi
  · rw [hne 4 (by omega)] at hr4; rw [hne _ (by omega), hne _ (by omega), hne _ (by omega), hne _ (by omega)]; exact c2 r hr4
  · rw [hne 4 (by omega)] at hr4; rw [hne _ (by omega)] at hj; rw [hne _ (by omega), hne 3 (by omega)]; exact c3 r j hr4 hj
  · rw [hne 5 (by omega)] at hc5; rw [hne _ (by omega), hne _ (by omega), hne _ (by omega), hne _ (by omega), hne _ (by omega)]; exact c4 c hc5
  · rw [hne 3 (by omega)] at hx; rw [hne _ (by omega), hne _ (by omega)]; exact c5 x hx
  · rw [hne (151 + 3 * r) (by omega), hne (152 + 3 * r) (by omega), hne (153 + 3 * r) (by omega)]
    refine (hr r hr4).imp id fun ⟨c, a1, a2⟩ => ⟨c, a1, ?_⟩
    unfold IR at a2 ⊢
    rw [hne 5 (by omega), hne 0 (by omega), hne _ (by omega), hne _ (by omega), hne _ (by omega), hne _ (by omega), hne _ (by omega), hcm]
    exact a2
  · rw [hne 5 (by omega)] at hc5
    rw [hne (173 + 14 * c) (by omega), hne (178 + 14 * c) (by omega), hne (179 + 14 * c) (by omega)]
    obtain ⟨a1, a2, a3⟩ := hc c hc5
    exact ⟨a1, a2, a3.imp id fun ⟨r, x1, x2, x3⟩ => ⟨r, x1, x2, by rw [hne _ (by omega)]; exact x3⟩⟩
  · rw [hne (163 + 2 * k) (by omega), hne (164 + 2 * k) (by omega)]
    refine (hm k hk).imp id fun ⟨c, x1, x2, x3, x4, x5⟩ => ⟨c, x1, by rw [hne 5 (by omega)]; exact x2, by rw [hne 1 (by omega)]; exact x3, by rw [hne _ (by omega)]; exact x4, x5⟩
  · rw [hne _ (by omega), hne _ (by omega)] at q1
    rw [hne _ (by omega)] at q2
    exact hu k k2 hk hk2 q1 q2
theorem PO.rule {d : Nat → Int} (h : PO d) {q : Nat} {v : Int} (hq : 19 ≤ q ∧ q ≤ 21) : PO (ud d q v) :=
  h.up (ud_n (by omega)) (ud_n (by omega)) (ud_n (by omega)) (fun x hx => ud_n (by omega)) (fun c hc5 => Or.inl ⟨ud_n (by omega), ud_n (by omega), ud_n (by omega)⟩)
theorem rel_rule {g : Mem} {e : Nat} {d : Nat → Int} (h : RelX g e d) {q : Nat} {v : Int} (hq : 19 ≤ q ∧ q ≤ 21) : RelX (up2 g e (q - 12) v) e (ud d q v) := by
  have hne : ∀ i, (i < 19 ∨ 21 < i) → ud d q v i = d i := fun i hi => ud_n (by omega)
  have hg : ∀ a, a ≠ e → up2 g e (q - 12) v a = g a := fun a ha => funext fun j => up2_a ha
  obtain ⟨⟨x1, x2, x3, x4, x5⟩, ⟨s0, s1, s2, s3, s4, s5, s6, s7, s8, s9, s10, s11⟩, hl, hgr, hrt, hrg, hmk, hcl⟩ := h
  refine ⟨⟨fun i hi => ?_, fun i hi => ?_, fun i hi => ?_, fun i hi => ?_, fun i hi => ?_⟩, ⟨?_, ?_, ?_, ?_, ?_, ?_, ?_, ?_, ?_, ?_, ?_, ?_⟩, fun i hi => ?_, fun x hx => ?_, fun r hr => ?_, fun r hr => ?_, fun k hk => ?_, fun c hc => ?_⟩
  · rw [hg _ (by omega)]; exact x1 i hi
  · rw [hg _ (by omega)]; exact x2 i hi
  · rw [hg _ (by omega)]; exact x3 i hi
  · rw [hg _ (by omega)]; exact x4 i hi
  · rw [hg _ (by omega)]; exact x5 i hi
  · rw [up2_k (by omega), hne _ (by omega)]; exact s0
  · rw [up2_k (by omega), hne _ (by omega)]; exact s1
  · rw [up2_k (by omega), hne _ (by omega)]; exact s2
  · rw [up2_k (by omega), hne _ (by omega)]; exact s3
  · rw [up2_k (by omega), hne _ (by omega)]; exact s4
  · rw [up2_k (by omega), hne _ (by omega)]; exact s5
  · rw [up2_k (by omega), hne _ (by omega)]; exact s6
  · by_cases e1 : q = 19
    · subst e1; rw [ud_s]; exact up2_s
    · rw [up2_k (by omega), ud_n (by omega)]; exact s7
  · by_cases e1 : q = 20
    · subst e1; rw [ud_s]; exact up2_s
    · rw [up2_k (by omega), ud_n (by omega)]; exact s8
  · by_cases e1 : q = 21
    · subst e1; rw [ud_s]; exact up2_s
    · rw [up2_k (by omega), ud_n (by omega)]; exact s9
  · rw [up2_k (by omega), hne _ (by omega)]; exact s10
  · rw [up2_k (by omega), hne _ (by omega)]; exact s11
  · rw [hne 2 (by omega)] at hi; rw [hg _ (by omega), hne _ (by omega), hne _ (by omega)]; exact hl i hi
  · rw [hne 3 (by omega)] at hx; rw [hg _ (by omega)]; exact (hgr x hx).cong (fun i h1 h2 => hne i (by omega))
  · rw [hne 4 (by omega)] at hr
    rw [hg _ (by omega), hg _ (by omega)]
    obtain ⟨a1, a2, a3, a4⟩ := hrt r hr
    unfold RtR
    rw [hne (95 + 7 * r) (by omega), hne (96 + 7 * r) (by omega), hne (97 + 7 * r) (by omega), hne (98 + 7 * r) (by omega)]
    exact ⟨a1, a2, a3, fun j hj => by rw [hne _ (by omega)]; exact a4 j hj⟩
  · rw [hg _ (by omega)]
    obtain ⟨a1, a2, a3⟩ := hrg r hr
    unfold RgR s_dv
    rw [hne (151 + 3 * r) (by omega), hne (152 + 3 * r) (by omega), hne (153 + 3 * r) (by omega), hne (180 + 14 * _) (by omega), hne (170 + 14 * _) (by omega)]
    exact ⟨a1, a2, a3⟩
  · rw [hg _ (by omega)]; exact (hmk k hk).cong (fun i h1 h2 => hne i (by omega))
  · rw [hg _ (by omega)]; exact (hcl c hc).cong (hne 5 (by omega)) (fun i h1 h2 _ => hne i (by omega))
theorem KX.rule {g : Mem} {e : Nat} {d : Nat → Int} (h : KX g e d) {q : Nat} {v : Int} (hq : 19 ≤ q ∧ q ≤ 21) (h1 : 1 ≤ v) (h2 : v ≤ most q) : KX (up2 g e (q - 12) v) e (ud d q v) := ⟨rel_rule h.1 hq, h.2.1.rule hq h1 h2, h.2.2.rule hq⟩

set_option maxRecDepth 20000 in
theorem c_mostOf19 {w : Wd} {sh : Shp} {g : Mem} : CT w mX9_mostOf [.int (i32 (19))] sh g (dQ (some (.int (i32 (most 19)))) sh g) := by
  refine j_entry (by decide) rfl (Nat.le_of_ble_eq_true rfl) (fun h => by cases h) rfl ?_
  show J w mX9_mostOf 0 [(0, .int (i32 (19)))] [] sh g 0 0 _
  refine j_iload_n 1 0 dX9_mostOf_0 rfl rfl ?_
  refine j_tabIn 28 dX9_mostOf_1 (r32 (by decide) (by decide)) (by decide) (by decide) rfl rfl ?_
  refine j_bipush 30 dX9_mostOf_28 rfl (by decide) ?_
  exact j_iret dX9_mostOf_30 rfl (q_i rfl)

set_option maxRecDepth 20000 in
theorem c_mostOf20 {w : Wd} {sh : Shp} {g : Mem} : CT w mX9_mostOf [.int (i32 (20))] sh g (dQ (some (.int (i32 (most 20)))) sh g) := by
  refine j_entry (by decide) rfl (Nat.le_of_ble_eq_true rfl) (fun h => by cases h) rfl ?_
  show J w mX9_mostOf 0 [(0, .int (i32 (20)))] [] sh g 0 0 _
  refine j_iload_n 1 0 dX9_mostOf_0 rfl rfl ?_
  refine j_tabIn 31 dX9_mostOf_1 (r32 (by decide) (by decide)) (by decide) (by decide) rfl rfl ?_
  refine j_bipush 33 dX9_mostOf_31 rfl (by decide) ?_
  exact j_iret dX9_mostOf_33 rfl (q_i rfl)

set_option maxRecDepth 20000 in
theorem c_mostOf21 {w : Wd} {sh : Shp} {g : Mem} : CT w mX9_mostOf [.int (i32 (21))] sh g (dQ (some (.int (i32 (most 21)))) sh g) := by
  refine j_entry (by decide) rfl (Nat.le_of_ble_eq_true rfl) (fun h => by cases h) rfl ?_
  show J w mX9_mostOf 0 [(0, .int (i32 (21)))] [] sh g 0 0 _
  refine j_iload_n 1 0 dX9_mostOf_0 rfl rfl ?_
  refine j_tabIn 34 dX9_mostOf_1 (r32 (by decide) (by decide)) (by decide) (by decide) rfl rfl ?_
  refine j_bipush 36 dX9_mostOf_34 rfl (by decide) ?_
  exact j_iret dX9_mostOf_36 rfl (q_i rfl)

set_option maxRecDepth 20000 in
theorem c_mostOfN {w : Wd} {sh : Shp} {g : Mem} {q : Int} (hq : R32 q) (h : q < 19 ∨ 21 < q) : CT w mX9_mostOf [.int (i32 q)] sh g (dQ (some (.int (i32 (most q)))) sh g) := by
  refine j_entry (by decide) rfl (Nat.le_of_ble_eq_true rfl) (fun h => by cases h) rfl ?_
  show J w mX9_mostOf 0 [(0, .int (i32 q))] [] sh g 0 0 _
  refine j_iload_n 1 0 dX9_mostOf_0 rfl rfl ?_
  refine j_tabOut 37 dX9_mostOf_1 hq h rfl ?_
  refine j_iconst 38 dX9_mostOf_37 rfl ?_
  exact j_iret dX9_mostOf_38 rfl (q_i (by unfold most; rw [if_neg (by omega), if_neg (by omega), if_neg (by omega)]))
theorem c_mostOf {w : Wd} {sh : Shp} {g : Mem} {q : Int} (hq : R32 q) : CT w mX9_mostOf [.int (i32 q)] sh g (dQ (some (.int (i32 (most q)))) sh g) := by
  by_cases h1 : q = 19
  · rw [h1]; exact c_mostOf19
  by_cases h2 : q = 20
  · rw [h2]; exact c_mostOf20
  by_cases h3 : q = 21
  · rw [h3]; exact c_mostOf21
  exact c_mostOfN hq (by omega)
theorem most_r (q : Int) : 0 ≤ most q ∧ most q ≤ 40 := by unfold most; split; omega; split; omega; split <;> omega

set_option maxRecDepth 20000 in
theorem c_setRule19 {w : Wd} {sh : Shp} {g : Mem} {e : Nat} (hE : ExS sh.1 e) {v : Int} (hv : R32 v) : CT w mX1_setRule [.ref (e), .int (i32 (19)), .int (i32 (v))] sh g (dQ (some (.int (i32 (g e 7)))) sh (up2 g e 7 v)) := by
  refine j_entry (by decide) rfl (Nat.le_of_ble_eq_true rfl) (fun h => by cases h) rfl ?_
  show J w mX1_setRule 0 [(0, .ref (e)), (1, .int (i32 (19))), (2, .int (i32 (v)))] [] sh g 0 0 _
  refine j_iload_n 1 1 dX1_setRule_0 rfl rfl ?_
  refine j_lookup 28 dX1_setRule_1 (r32 (by decide) (by decide)) (by decide) (off := 27) rfl rfl ?_
  refine j_aload_n 29 0 dX1_setRule_28 rfl rfl ?_
  refine j_geti 32 dX1_setRule_29 rfl fl_X1_77 hE.ex rfl rfl (fun r_29 => ?_)
  refine j_istore_n 33 (L2 := [(3, .int (i32 (g (e) 7))), (0, .ref (e)), (1, .int (i32 (19))), (2, .int (i32 (v)))]) dX1_setRule_32 rfl rfl (Nat.le_of_ble_eq_true rfl) rfl ?_
  refine j_aload_n 34 1 dX1_setRule_33 rfl rfl ?_
  refine j_iload_n 35 3 dX1_setRule_34 rfl rfl ?_
  refine j_puti 38 dX1_setRule_35 rfl fl_X1_77 hE.ex rfl rfl rfl hv ?_
  refine j_mn (fun g_35 hg_35 => ?_)
  refine j_goto 64 dX1_setRule_38 rfl ?_
  refine j_iload_n 65 0 dX1_setRule_64 rfl rfl ?_
  exact j_iret dX1_setRule_65 rfl (q_gi rfl (by assumption))

set_option maxRecDepth 20000 in
theorem c_setRule20 {w : Wd} {sh : Shp} {g : Mem} {e : Nat} (hE : ExS sh.1 e) {v : Int} (hv : R32 v) : CT w mX1_setRule [.ref (e), .int (i32 (20)), .int (i32 (v))] sh g (dQ (some (.int (i32 (g e 8)))) sh (up2 g e 8 v)) := by
  refine j_entry (by decide) rfl (Nat.le_of_ble_eq_true rfl) (fun h => by cases h) rfl ?_
  show J w mX1_setRule 0 [(0, .ref (e)), (1, .int (i32 (20))), (2, .int (i32 (v)))] [] sh g 0 0 _
  refine j_iload_n 1 1 dX1_setRule_0 rfl rfl ?_
  refine j_lookup 41 dX1_setRule_1 (r32 (by decide) (by decide)) (by decide) (off := 40) rfl rfl ?_
  refine j_aload_n 42 0 dX1_setRule_41 rfl rfl ?_
  refine j_geti 45 dX1_setRule_42 rfl fl_X1_80 hE.ex rfl rfl (fun r_42 => ?_)
  refine j_istore_n 46 (L2 := [(3, .int (i32 (g (e) 8))), (0, .ref (e)), (1, .int (i32 (20))), (2, .int (i32 (v)))]) dX1_setRule_45 rfl rfl (Nat.le_of_ble_eq_true rfl) rfl ?_
  refine j_aload_n 47 1 dX1_setRule_46 rfl rfl ?_
  refine j_iload_n 48 3 dX1_setRule_47 rfl rfl ?_
  refine j_puti 51 dX1_setRule_48 rfl fl_X1_80 hE.ex rfl rfl rfl hv ?_
  refine j_mn (fun g_48 hg_48 => ?_)
  refine j_goto 64 dX1_setRule_51 rfl ?_
  refine j_iload_n 65 0 dX1_setRule_64 rfl rfl ?_
  exact j_iret dX1_setRule_65 rfl (q_gi rfl (by assumption))

set_option maxRecDepth 20000 in
theorem c_setRule21 {w : Wd} {sh : Shp} {g : Mem} {e : Nat} (hE : ExS sh.1 e) {v : Int} (hv : R32 v) : CT w mX1_setRule [.ref (e), .int (i32 (21)), .int (i32 (v))] sh g (dQ (some (.int (i32 (g e 9)))) sh (up2 g e 9 v)) := by
  refine j_entry (by decide) rfl (Nat.le_of_ble_eq_true rfl) (fun h => by cases h) rfl ?_
  show J w mX1_setRule 0 [(0, .ref (e)), (1, .int (i32 (21))), (2, .int (i32 (v)))] [] sh g 0 0 _
  refine j_iload_n 1 1 dX1_setRule_0 rfl rfl ?_
  refine j_lookup 54 dX1_setRule_1 (r32 (by decide) (by decide)) (by decide) (off := 53) rfl rfl ?_
  refine j_aload_n 55 0 dX1_setRule_54 rfl rfl ?_
  refine j_geti 58 dX1_setRule_55 rfl fl_X1_83 hE.ex rfl rfl (fun r_55 => ?_)
  refine j_istore_n 59 (L2 := [(3, .int (i32 (g (e) 9))), (0, .ref (e)), (1, .int (i32 (21))), (2, .int (i32 (v)))]) dX1_setRule_58 rfl rfl (Nat.le_of_ble_eq_true rfl) rfl ?_
  refine j_aload_n 60 1 dX1_setRule_59 rfl rfl ?_
  refine j_iload_n 61 3 dX1_setRule_60 rfl rfl ?_
  refine j_puti 64 dX1_setRule_61 rfl fl_X1_83 hE.ex rfl rfl rfl hv ?_
  refine j_mn (fun g_61 hg_61 => ?_)
  refine j_iload_n 65 0 dX1_setRule_64 rfl rfl ?_
  exact j_iret dX1_setRule_65 rfl (q_gi rfl (by assumption))
