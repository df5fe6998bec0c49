/-! a call more in the row -/
def lcell (line many value talk comes : Int) (k : Nat) : Int := if k = 0 then line else if k = 1 then many else if k = 2 then talk else if k = 3 then comes else if k = 11 then value else if k = 5 ∨ k = 6 ∨ k = 7 ∨ k = 8 ∨ k = 10 then -1 else 0
def s_lay (d : Nat → Int) (line many value talk comes : Int) : Nat → Int := fun j => if j = 5 then d 5 + 1 else if 169 + 14 * (d 5).toNat ≤ j ∧ j < 183 + 14 * (d 5).toNat then lcell line many value talk comes (j - (169 + 14 * (d 5).toNat)) else d j
section LAY
variable {d : Nat → Int} {c : Nat} {line many value talk comes : Int}
theorem lay_5 : s_lay d line many value talk comes 5 = d 5 + 1 := if_pos rfl
theorem lay_n (hc : d 5 = (c : Int)) {j : Nat} (h5 : j ≠ 5) (h : j < 169 + 14 * c ∨ 183 + 14 * c ≤ j) : s_lay d line many value talk comes j = d j := by
  unfold s_lay
  rw [if_neg h5, hc, Int.toNat_natCast, if_neg (by omega)]
theorem lay_k (hc : d 5 = (c : Int)) {j k : Nat} (hj : j = 169 + k + 14 * c) (hk : k < 14) : s_lay d line many value talk comes j = lcell line many value talk comes k := by
  unfold s_lay
  rw [if_neg (by omega), hc, Int.toNat_natCast, if_pos (by omega), show j - (169 + 14 * c) = k by omega]
theorem Inv.lay (h : Inv d) (hc : d 5 = (c : Int)) (hc40 : c < 40) (hl : 0 ≤ line ∧ line < d 2) (hm : 1 ≤ many ∧ many ≤ 6) (hv : 0 ≤ value ∧ value < pw many.toNat) (ht : 1 ≤ talk ∧ talk ≤ 99) : Inv (s_lay d line many value talk comes) := by
  have hne : ∀ i, i ≠ 5 → (i < 169 + 14 * c ∨ 183 + 14 * c ≤ i) → s_lay d line many value talk comes i = d i := fun i h5 hi => lay_n hc h5 hi
  have h5 : s_lay d line many value talk comes 5 = (c : Int) + 1 := by rw [lay_5, hc]
  have hk : ∀ k, k < 14 → s_lay d line many value talk comes (169 + k + 14 * c) = lcell line many value talk comes k := fun k hk => lay_k hc rfl hk
  obtain ⟨⟨b0, b1, b2, b3, b4, b5, b6, b7, b8, b9⟩, ⟨c0, c1, c2, c3, c4, c5⟩, hr, hcl, hmk, hu⟩ := h
  have hcm : ∀ (c2 : Nat) (m2 : Int), c2 ≠ c → cmp (s_lay d line many value talk comes) c2 m2 = cmp d c2 m2 := fun c2 m2 hn => cmp_cong (fun i h1 h2 _ => hne i h2 (by omega)) (hne _ (by omega) (by omega)) (hne _ (by omega) (by omega))
  refine ⟨⟨?_, ?_, ?_, ?_, ?_, ?_, fun r hr8 => ?_, fun r j hr8 hj => ?_, fun x hx => ?_, fun c2 hc4 => ?_⟩, ⟨?_, fun i hi => ?_, fun r hr4 => ?_, fun r j hr4 hj => ?_, fun c2 hc5 => ?_, fun x hx => ?_⟩, fun r hr4 => ?_, fun c2 hc5 => ?_, fun k hk3 => ?_, fun k k2 hk3 hk2 q1 q2 => ?_⟩
  · rw [hne 0 (by omega) (by omega)]; exact b0
  · rw [hne 1 (by omega) (by omega)]; exact b1
  · rw [hne 2 (by omega) (by omega)]; exact b2
  · rw [hne 3 (by omega) (by omega)]; exact b3
  · rw [hne 4 (by omega) (by omega)]; exact b4
  · rw [h5]; omega
  · rw [hne _ (by omega) (by omega), hne _ (by omega) (by omega)]; exact b6 r hr8
  · rw [hne _ (by omega) (by omega)] at hj
    have := b6 r hr8
    rw [hne _ (by omega) (by omega)]; exact b7 r j hr8 hj
  · rw [hne _ (by omega) (by omega)]; exact b8 x hx
  · by_cases e : c2 = c
    · subst e; rw [hk 1 (by omega), hk 11 (by omega)]; exact ⟨by show 0 ≤ many; omega, by show many ≤ 6; omega, hv.1⟩
    · rw [hne _ (by omega) (by omega), hne _ (by omega) (by omega)]; exact b9 c2 hc4
  · rw [hne 0 (by omega) (by omega), hne 1 (by omega) (by omega), hne 19 (by omega) (by omega), hne 20 (by omega) (by omega), hne 21 (by omega) (by omega)]; exact c0
  · rw [hne 2 (by omega) (by omega)] at hi; rw [hne _ (by omega) (by omega), hne _ (by omega) (by omega)]; exact c1 i hi
  · rw [hne 4 (by omega) (by omega)] at hr4; rw [hne _ (by omega) (by omega), hne _ (by omega) (by omega), hne _ (by omega) (by omega), hne _ (by omega) (by omega)]; exact c2 r hr4
  · rw [hne 4 (by omega) (by omega)] at hr4; rw [hne _ (by omega) (by omega)] at hj
    have := b6 r (by omega)
    rw [hne _ (by omega) (by omega), hne 3 (by omega) (by omega)]; exact c3 r j hr4 hj
  · by_cases e : c2 = c
    · subst e
      rw [hk 0 (by omega), hk 1 (by omega), hk 2 (by omega), hk 11 (by omega), hne 2 (by omega) (by omega)]
      exact ⟨hl.1, hl.2, hm.1, ht.1, ht.2, hv.2⟩
    · rw [h5] at hc5
      rw [hne _ (by omega) (by omega), hne _ (by omega) (by omega), hne _ (by omega) (by omega), hne _ (by omega) (by omega), hne _ (by omega) (by omega)]; exact c4 c2 (by omega)
  · rw [hne 3 (by omega) (by omega)] at hx; rw [hne _ (by omega) (by omega), hne _ (by omega) (by omega)]; exact c5 x hx
  · rw [hne (151 + 3 * r) (by omega) (by omega), hne (152 + 3 * r) (by omega) (by omega), hne (153 + 3 * r) (by omega) (by omega)]
    refine (hr r hr4).imp id fun ⟨c2, a1, a2⟩ => ⟨c2, a1, ?_⟩
    have hlt := a2.1
    unfold IR at a2 ⊢
    rw [h5, hne 0 (by omega) (by omega), hne _ (by omega) (by omega), hne _ (by omega) (by omega), hne _ (by omega) (by omega), hne _ (by omega) (by omega), hne _ (by omega) (by omega), hcm _ _ (by omega)]
    exact ⟨by omega, a2.2⟩
  · by_cases e : c2 = c
    · subst e
      rw [hk 4 (by omega), hk 9 (by omega), hk 10 (by omega), show lcell line many value talk comes 4 = 0 from rfl, show lcell line many value talk comes 9 = 0 from rfl, show lcell line many value talk comes 10 = -1 from rfl]
      exact ⟨by decide, fun q => absurd q (by decide), Or.inl ⟨rfl, by decide⟩⟩
    · rw [h5] at hc5
      rw [hne (173 + 14 * c2) (by omega) (by omega), hne (178 + 14 * c2) (by omega) (by omega), hne (179 + 14 * c2) (by omega) (by omega)]
      obtain ⟨a1, a2, a3⟩ := hcl c2 (by omega)
      exact ⟨a1, a2, a3.imp id fun ⟨r, x1, x2, x3⟩ => ⟨r, x1, x2, by rw [hne _ (by omega) (by omega)]; exact x3⟩⟩
  · rw [hne (163 + 2 * k) (by omega) (by omega), hne (164 + 2 * k) (by omega) (by omega)]
    refine (hmk k hk3).imp id fun ⟨c2, x1, x2, x3, x4, x5⟩ => ⟨c2, x1, by rw [h5]; omega, by rw [hne 1 (by omega) (by omega)]; exact x3, by rw [hne _ (by omega) (by omega)]; exact x4, x5⟩
  · rw [hne _ (by omega) (by omega), hne _ (by omega) (by omega)] at q1
    rw [hne _ (by omega) (by omega)] at q2
    exact hu k k2 hk3 hk2 q1 q2
theorem PO.lay (h : PO d) (hc : d 5 = (c : Int)) : PO (s_lay d line many value talk comes) := by
  refine ⟨fun c2 hc2 h4 => ?_, ?_⟩
  · rw [lay_5, hc] at hc2
    by_cases e : c2 = c
    · subst e
      exact ⟨lay_k hc (k := 5) (by omega) (by omega), lay_k hc (k := 6) (by omega) (by omega)⟩
    · rw [lay_n hc (by omega) (by omega)] at h4
      rw [lay_n hc (by omega) (by omega), lay_n hc (by omega) (by omega)]
      exact h.1 c2 (by omega) h4
  · have : sO (s_lay d line many value talk comes) = sO d := sm_cong (fun x hx => by rw [lay_n hc (by omega) (by omega), lay_n hc (by omega) (by omega)])
    rw [this, lay_n hc (by omega) (by omega)]
    exact h.2
/-- the class' call at e + 35 + c told, and one call more -/
def telC (g : Mem) (e c : Nat) (line row talk comes : Int) : Mem := fun a j => if a = e then (if j = 5 then (c : Int) + 1 else g e j) else if a = e + 35 + c then (if j = 0 then g a 0 else if j = 2 then line else if j = 3 then row else if j = 4 then talk else if j = 5 then comes else if 8 ≤ j ∧ j ≤ 11 then -1 else if j = 1 ∨ j = 6 ∨ j = 7 ∨ j = 12 then 0 else g a j) else g a j
theorem rel_lay {g : Mem} {e : Nat} (h : RelX g e d) (hb : RB d) (hreg : ∀ r, r < 4 → ¬ d (151 + 3 * r) = -1 → 0 ≤ d (151 + 3 * r) ∧ d (151 + 3 * r) < d 5) (hc : d 5 = (c : Int)) (hc40 : c < 40) : RelX (telC g e c line (enc many value) talk comes) e (s_lay d line many value talk comes) := by
  have hne : ∀ i, i ≠ 5 → (i < 169 + 14 * c ∨ 183 + 14 * c ≤ i) → s_lay d line many value talk comes i = d i := fun i h5 hi => lay_n hc h5 hi
  have h5 : s_lay d line many value talk comes 5 = (c : Int) + 1 := by rw [lay_5, hc]
  have hk : ∀ k, k < 14 → s_lay d line many value talk comes (169 + k + 14 * c) = lcell line many value talk comes k := fun k hk => lay_k hc rfl hk
  have hg : ∀ a, a ≠ e → a ≠ e + 35 + c → telC g e c line (enc many value) talk comes a = g a := fun a h1 h2 => funext fun j => by unfold telC; rw [if_neg h1, if_neg h2]
  have hge : ∀ j, j ≠ 5 → telC g e c line (enc many value) talk comes e j = g e j := fun j hj => by unfold telC; rw [if_pos rfl, if_neg hj]
  have hgc : ∀ j, telC g e c line (enc many value) talk comes (e + 35 + c) j = (if j = 0 then g (e + 35 + c) 0 else if j = 2 then line else if j = 3 then enc many value else if j = 4 then talk else if j = 5 then comes else if 8 ≤ j ∧ j ≤ 11 then -1 else if j = 1 ∨ j = 6 ∨ j = 7 ∨ j = 12 then 0 else g (e + 35 + c) j) := fun j => by unfold telC; rw [if_neg (by omega), if_pos rfl]
  obtain ⟨-, -, b2, b3, b4, b5, b6, b7, b8, b9⟩ := hb
  obtain ⟨⟨x1, x2, x3, x4, x5⟩, ⟨s0, s1, s2, s3, s4, s5, s6, s7, s8, s9, s10, s11⟩, hl, hgr, hrt, hrg, hmk, hcl⟩ := h
  refine ⟨⟨fun i hi => ?_, fun i hi => ?_, fun i hi => ?_, fun i hi => ?_, fun i hi => ?_⟩, ⟨?_, ?_, ?_, ?_, ?_, ?_, ?_, ?_, ?_, ?_, ?_, ?_⟩, fun i hi => ?_, fun x hx => ?_, fun r hr => ?_, fun r hr => ?_, fun k hk => ?_, fun c2 hc2 => ?_⟩
  · rw [hg _ (by omega) (by omega)]; exact x1 i hi
  · rw [hg _ (by omega) (by omega)]; exact x2 i hi
  · rw [hg _ (by omega) (by omega)]; exact x3 i hi
  · rw [hg _ (by omega) (by omega)]; exact x4 i hi
  · by_cases e1 : i = c
    · subst e1; rw [hgc]; exact x5 i hi
    · rw [hg _ (by omega) (by omega)]; exact x5 i hi
  · rw [hge _ (by omega), hne _ (by omega) (by omega)]; exact s0
  · rw [hge _ (by omega), hne _ (by omega) (by omega)]; exact s1
  · rw [hge _ (by omega), hne _ (by omega) (by omega)]; exact s2
  · rw [hge _ (by omega), hne _ (by omega) (by omega)]; exact s3
  · rw [hge _ (by omega), hne _ (by omega) (by omega)]; exact s4
  · rw [h5]; unfold telC; rw [if_pos rfl, if_pos rfl]
  · rw [hge _ (by omega), hne _ (by omega) (by omega)]; exact s6
  · rw [hge _ (by omega), hne _ (by omega) (by omega)]; exact s7
  · rw [hge _ (by omega), hne _ (by omega) (by omega)]; exact s8
  · rw [hge _ (by omega), hne _ (by omega) (by omega)]; exact s9
  · rw [hge _ (by omega), hne _ (by omega) (by omega)]; exact s10
  · rw [hge _ (by omega), hne _ (by omega) (by omega)]; exact s11
  · rw [hne 2 (by omega) (by omega)] at hi; rw [hg _ (by omega) (by omega), hne _ (by omega) (by omega), hne _ (by omega) (by omega)]; exact hl i hi
  · rw [hne 3 (by omega) (by omega)] at hx; rw [hg _ (by omega) (by omega)]; exact (hgr x hx).cong (fun i h1 h2 => hne i (by omega) (by omega))
  · rw [hne 4 (by omega) (by omega)] at hr
    rw [hg _ (by omega) (by omega), hg _ (by omega) (by omega)]
    obtain ⟨a1, a2, a3, a4⟩ := hrt r hr
    have := b6 r (by omega)
    unfold RtR
    rw [hne (95 + 7 * r) (by omega) (by omega), hne (96 + 7 * r) (by omega) (by omega), hne (97 + 7 * r) (by omega) (by omega), hne (98 + 7 * r) (by omega) (by omega)]
    exact ⟨a1, a2, a3, fun j hj => by rw [hne _ (by omega) (by omega)]; exact a4 j hj⟩
  · rw [hg _ (by omega) (by omega)]
    obtain ⟨a1, a2, a3⟩ := hrg r hr
    unfold RgR s_dv
    rw [hne (151 + 3 * r) (by omega) (by omega), hne (152 + 3 * r) (by omega) (by omega), hne (153 + 3 * r) (by omega) (by omega)]
    refine ⟨a1, a2, ?_⟩
    rw [a3]
    by_cases e1 : d (151 + 3 * r) = -1
    · rw [if_pos e1, if_pos e1]
    · rw [if_neg e1, if_neg e1]
      unfold s_dv
      have hlt := hreg r hr e1
      rw [hne (180 + 14 * _) (by omega) (by omega), hne (170 + 14 * _) (by omega) (by omega)]
  · rw [hg _ (by omega) (by omega)]; exact (hmk k hk).cong (fun i h1 h2 => hne i (by omega) (by omega))
  · by_cases e1 : c2 = c
    · subst e1
      unfold ClR
      rw [if_pos (by rw [h5]; omega)]
      simp only [hgc]
      have e2 : ∀ k j, k < 14 → j = 169 + k + 14 * c2 → s_lay d line many value talk comes j = lcell line many value talk comes k := fun k j hk2 hj => lay_k hc hj hk2
      rw [e2 4 (173 + 14 * c2) (by omega) (by omega), e2 0 (169 + 14 * c2) (by omega) (by omega), e2 1 (170 + 14 * c2) (by omega) (by omega), e2 11 (180 + 14 * c2) (by omega) (by omega), e2 2 (171 + 14 * c2) (by omega) (by omega), e2 3 (172 + 14 * c2) (by omega) (by omega), e2 13 (182 + 14 * c2) (by omega) (by omega), e2 12 (181 + 14 * c2) (by omega) (by omega), e2 5 (174 + 14 * c2) (by omega) (by omega), e2 6 (175 + 14 * c2) (by omega) (by omega), e2 7 (176 + 14 * c2) (by omega) (by omega), e2 8 (177 + 14 * c2) (by omega) (by omega), e2 9 (178 + 14 * c2) (by omega) (by omega)]
      exact ⟨rfl, rfl, rfl, rfl, rfl, rfl, rfl, rfl, rfl, rfl, rfl, rfl⟩
    · rw [hg _ (by omega) (by omega)]
      have a := hcl c2 hc2
      unfold ClR at a ⊢
      rw [h5]
      by_cases e2 : (c2 : Int) < d 5
      · rw [if_pos e2] at a
        rw [if_pos (by omega), hne _ (by omega) (by omega), hne _ (by omega) (by omega), hne _ (by omega) (by omega), hne _ (by omega) (by omega), hne _ (by omega) (by omega), hne _ (by omega) (by omega), hne _ (by omega) (by omega), hne _ (by omega) (by omega), hne _ (by omega) (by omega), hne _ (by omega) (by omega), hne _ (by omega) (by omega), hne _ (by omega) (by omega), hne _ (by omega) (by omega)]
        exact a
      · rw [if_neg e2] at a
        rw [if_neg (by omega)]
        exact a
end LAY

theorem Inv.regs {d : Nat → Int} (h : Inv d) : ∀ r, r < 4 → ¬ d (151 + 3 * r) = -1 → 0 ≤ d (151 + 3 * r) ∧ d (151 + 3 * r) < d 5 := fun r hr hn => by
  rcases h.2.2.1 r hr with a | ⟨c, a1, a2⟩
  · exact absurd a.1 hn
  · have := a2.1
    omega
theorem KX.lay {g : Mem} {e c : Nat} {d : Nat → Int} {line many value talk comes : Int} (h : KX g e d) (hc : d 5 = (c : Int)) (hc40 : c < 40) (hl : 0 ≤ line ∧ line < d 2) (hm : 1 ≤ many ∧ many ≤ 6) (hv : 0 ≤ value ∧ value < pw many.toNat) (ht : 1 ≤ talk ∧ talk ≤ 99) : KX (telC g e c line (enc many value) talk comes) e (s_lay d line many value talk comes) :=
  ⟨rel_lay h.1 h.2.1.1 h.2.1.regs hc hc40, h.2.1.lay hc hc40 hl hm hv ht, h.2.2.lay hc⟩

set_option maxRecDepth 20000 in
theorem c_tell {w : Wd} {sh : Shp} {g : Mem} {a : Nat} (ha : sh.1 a = some (0, 0, kN)) {x y z u : Int} (hx : R32 x) (hy : R32 y) (hz : R32 z) (hu : R32 u) : CT w mX0_tell [.ref (a), .int (i32 (x)), .int (i32 (y)), .int (i32 (z)), .int (i32 (u))] sh g (dQ none sh (up2 (up2 (up2 (up2 (up2 (up2 (up2 (up2 (up2 (up2 (up2 (up2 g a 1 0) a 2 x) a 3 y) a 4 z) a 5 u) a 6 0) a 7 0) a 8 (-1)) a 9 (-1)) a 10 (-1)) a 11 (-1)) a 12 0)) := by
  refine j_entry (by decide) rfl (Nat.le_of_ble_eq_true rfl) (fun h => by cases h) rfl ?_
  show J w mX0_tell 0 [(0, .ref (a)), (1, .int (i32 (x))), (2, .int (i32 (y))), (3, .int (i32 (z))), (4, .int (i32 (u)))] [] sh g 0 0 _
  refine j_aload_n 1 0 dX0_tell_0 rfl rfl ?_
  refine j_iconst 2 dX0_tell_1 rfl ?_
  refine j_puti 5 dX0_tell_2 rfl fl_X0_15 ha rfl rfl rfl (r32 (by decide) (by decide)) ?_
  refine j_mn (fun g_2 hg_2 => ?_)
  refine j_aload_n 6 0 dX0_tell_5 rfl rfl ?_
  refine j_iload_n 7 1 dX0_tell_6 rfl rfl ?_
  refine j_puti 10 dX0_tell_7 rfl fl_X0_18 ha rfl rfl rfl hx ?_
  refine j_mn (fun g_7 hg_7 => ?_)
  refine j_aload_n 11 0 dX0_tell_10 rfl rfl ?_
  refine j_iload_n 12 2 dX0_tell_11 rfl rfl ?_
  refine j_puti 15 dX0_tell_12 rfl fl_X0_21 ha rfl rfl rfl hy ?_
  refine j_mn (fun g_12 hg_12 => ?_)
  refine j_aload_n 16 0 dX0_tell_15 rfl rfl ?_
  refine j_iload_n 17 3 dX0_tell_16 rfl rfl ?_
  refine j_puti 20 dX0_tell_17 rfl fl_X0_24 ha rfl rfl rfl hz ?_
  refine j_mn (fun g_17 hg_17 => ?_)
  refine j_aload_n 21 0 dX0_tell_20 rfl rfl ?_
  refine j_iload 23 4 dX0_tell_21 rfl rfl ?_
  refine j_puti 26 dX0_tell_23 rfl fl_X0_27 ha rfl rfl rfl hu ?_
  refine j_mn (fun g_23 hg_23 => ?_)
  refine j_aload_n 27 0 dX0_tell_26 rfl rfl ?_
  refine j_iconst 28 dX0_tell_27 rfl ?_
  refine j_putz 31 dX0_tell_28 rfl fl_X0_30 ha rfl rfl rfl (by omega) ?_
  refine j_mn (fun g_28 hg_28 => ?_)
  refine j_aload_n 32 0 dX0_tell_31 rfl rfl ?_
  refine j_iconst 33 dX0_tell_32 rfl ?_
  refine j_puti 36 dX0_tell_33 rfl fl_X0_34 ha rfl rfl rfl (r32 (by decide) (by decide)) ?_
  refine j_mn (fun g_33 hg_33 => ?_)
  refine j_aload_n 37 0 dX0_tell_36 rfl rfl ?_
  refine j_iconst 38 dX0_tell_37 rfl ?_
  refine j_puti 41 dX0_tell_38 rfl fl_X0_37 ha rfl rfl rfl (r32 (by decide) (by decide)) ?_
  refine j_mn (fun g_38 hg_38 => ?_)
  refine j_aload_n 42 0 dX0_tell_41 rfl rfl ?_
  refine j_iconst 43 dX0_tell_42 rfl ?_
  refine j_puti 46 dX0_tell_43 rfl fl_X0_40 ha rfl rfl rfl (r32 (by decide) (by decide)) ?_
  refine j_mn (fun g_43 hg_43 => ?_)
  refine j_aload_n 47 0 dX0_tell_46 rfl rfl ?_
  refine j_iconst 48 dX0_tell_47 rfl ?_
  refine j_puti 51 dX0_tell_48 rfl fl_X0_43 ha rfl rfl rfl (r32 (by decide) (by decide)) ?_
  refine j_mn (fun g_48 hg_48 => ?_)
  refine j_aload_n 52 0 dX0_tell_51 rfl rfl ?_
  refine j_iconst 53 dX0_tell_52 rfl ?_
  refine j_puti 56 dX0_tell_53 rfl fl_X0_46 ha rfl rfl rfl (r32 (by decide) (by decide)) ?_
  refine j_mn (fun g_53 hg_53 => ?_)
  refine j_aload_n 57 0 dX0_tell_56 rfl rfl ?_
  refine j_iconst 58 dX0_tell_57 rfl ?_
  refine j_puti 61 dX0_tell_58 rfl fl_X0_49 ha rfl rfl rfl (r32 (by decide) (by decide)) ?_
  refine j_mn (fun g_58 hg_58 => ?_)
  exact j_vret dX0_tell_61 rfl (q_m (by simp only [*]))

theorem up12 {g : Mem} {a b j : Nat} {x y z u : Int} (h : b ≠ a) : (up2 (up2 (up2 (up2 (up2 (up2 (up2 (up2 (up2 (up2 (up2 (up2 g a 1 0) a 2 x) a 3 y) a 4 z) a 5 u) a 6 0) a 7 0) a 8 (-1)) a 9 (-1)) a 10 (-1)) a 11 (-1)) a 12 0) b j = g b j := by
  rw [up2_a h, up2_a h, up2_a h, up2_a h, up2_a h, up2_a h, up2_a h, up2_a h, up2_a h, up2_a h, up2_a h, up2_a h]
theorem up12_0 {g : Mem} {a : Nat} {x y z u : Int} : (up2 (up2 (up2 (up2 (up2 (up2 (up2 (up2 (up2 (up2 (up2 (up2 g a 1 0) a 2 x) a 3 y) a 4 z) a 5 u) a 6 0) a 7 0) a 8 (-1)) a 9 (-1)) a 10 (-1)) a 11 (-1)) a 12 0) a 0 = g a 0 := by
  rw [up2_k (by decide), up2_k (by decide), up2_k (by decide), up2_k (by decide), up2_k (by decide), up2_k (by decide), up2_k (by decide), up2_k (by decide), up2_k (by decide), up2_k (by decide), up2_k (by decide), up2_k (by decide)]
theorem telC_eq {g : Mem} {e c : Nat} {x y z u : Int} : up2 (up2 (up2 (up2 (up2 (up2 (up2 (up2 (up2 (up2 (up2 (up2 (up2 g (e + 35 + c) 1 0) (e + 35 + c) 2 x) (e + 35 + c) 3 y) (e + 35 + c) 4 z) (e + 35 + c) 5 u) (e + 35 + c) 6 0) (e + 35 + c) 7 0) (e + 35 + c) 8 (-1)) (e + 35 + c) 9 (-1)) (e + 35 + c) 10 (-1)) (e + 35 + c) 11 (-1)) (e + 35 + c) 12 0) e 5 ((c : Int) + 1) = telC g e c x y z u := by
  funext a j
  unfold telC
  by_cases h1 : a = e
  · subst h1
    rw [if_pos rfl]
    by_cases h2 : j = 5
    · subst h2; rw [if_pos rfl, up2_s]
    · rw [if_neg h2, up2_k h2, up12 (by omega)]
  · rw [if_neg h1, up2_a h1]
    by_cases h2 : a = e + 35 + c
    · subst h2
      rw [if_pos rfl]
      unfold up2
      simp only [true_and]
      by_cases j0 : j = 0
      · subst j0; simp
      by_cases j1 : j = 1
      · subst j1; simp
      by_cases j2 : j = 2
      · subst j2; simp
      by_cases j3 : j = 3
      · subst j3; simp
      by_cases j4 : j = 4
      · subst j4; simp
      by_cases j5 : j = 5
      · subst j5; simp
      by_cases j6 : j = 6
      · subst j6; simp
      by_cases j7 : j = 7
      · subst j7; simp
      by_cases j8 : j = 8
      · subst j8; simp
      by_cases j9 : j = 9
      · subst j9; simp
      by_cases j10 : j = 10
      · subst j10; simp
      by_cases j11 : j = 11
      · subst j11; simp
      by_cases j12 : j = 12
      · subst j12; simp
      have h8 : ¬ (8 ≤ j ∧ j ≤ 11) := by omega
      simp [j0, j1, j2, j3, j4, j5, j6, j7, j8, j9, j10, j11, j12, h8]
    · rw [if_neg h2, up12 h2]

set_option maxRecDepth 20000 in
theorem c_tellCall {w : Wd} {sh : Shp} {g : Mem} {e c : Nat} (hE : ExS sh.1 e) (hI : ExI g e) (hc : g e 5 = (c : Int)) (hc40 : c < 40) {x y z u : Int} (hx : R32 x) (hy : R32 y) (hz : R32 z) (hu : R32 u) : CT w mX1_tellCall [.ref (e), .int (i32 (x)), .int (i32 (y)), .int (i32 (z)), .int (i32 (u))] sh g (dQ (some (.int (i32 (c : Int)))) sh (telC g e c x y z u)) := by
  refine j_entry (by decide) rfl (Nat.le_of_ble_eq_true rfl) (fun h => by cases h) rfl ?_
  show J w mX1_tellCall 0 [(0, .ref (e)), (1, .int (i32 (x))), (2, .int (i32 (y))), (3, .int (i32 (z))), (4, .int (i32 (u)))] [] sh g 0 0 _
  refine j_aload_n 1 0 dX1_tellCall_0 rfl rfl ?_
  refine j_geti 4 dX1_tellCall_1 rfl fl_X1_71 hE.ex rfl rfl (fun r_1 => ?_)
  refine j_top (y := (c : Int)) (hc) ?_
  refine j_if_lt 7 19 dX1_tellCall_4 rfl rfl (r32 (by omega) (by omega)) (fun c_4 => absurd c_4 (by omega)) (fun c_4 => ?_)
  refine j_aload_n 8 0 dX1_tellCall_7 rfl rfl ?_
  refine j_geti 11 dX1_tellCall_8 rfl fl_X1_71 hE.ex rfl rfl (fun r_8 => ?_)
  refine j_top (y := (c : Int)) (hc) ?_
  refine j_aload_n 12 0 dX1_tellCall_11 rfl rfl ?_
  refine j_getr 15 dX1_tellCall_12 rfl fl_X1_47 hE.ex rfl (fun _ _ => rfl) rfl ?_
  refine j_alen 16 dX1_tellCall_15 rfl hE.cls (Nat.le_of_ble_eq_true rfl) rfl ?_
  refine j_top (y := 40) rfl ?_
  refine j_icmp_lt 19 21 dX1_tellCall_16 rfl rfl (r32 (by omega) (by omega)) (r32 (by decide) (by decide)) (fun c_16 => ?_) (fun c_16 => absurd c_16 (by omega))
  refine j_aload_n 22 0 dX1_tellCall_21 rfl rfl ?_
  refine j_getr 25 dX1_tellCall_22 rfl fl_X1_47 hE.ex rfl (fun _ _ => rfl) rfl ?_
  refine j_aload_n 26 0 dX1_tellCall_25 rfl rfl ?_
  refine j_geti 29 dX1_tellCall_26 rfl fl_X1_71 hE.ex rfl rfl (fun r_26 => ?_)
  refine j_top (y := (c : Int)) (hc) ?_
  refine j_aald 30 ((c : Int)).toNat dX1_tellCall_29 rfl hE.cls (Nat.le_of_ble_eq_true rfl) rfl rfl (by omega) (show ((c : Int)).toNat < 40 by omega) rfl ?_
  refine j_astore 32 (L2 := [(5, .ref (e + 35 + ((c : Int)).toNat)), (0, .ref (e)), (1, .int (i32 (x))), (2, .int (i32 (y))), (3, .int (i32 (z))), (4, .int (i32 (u)))]) dX1_tellCall_30 rfl (Nat.le_of_ble_eq_true rfl) rfl ?_
  refine j_aload 34 0 dX1_tellCall_32 rfl rfl ?_
  refine j_iload_n 35 2 dX1_tellCall_34 rfl rfl ?_
  refine j_iload_n 36 3 dX1_tellCall_35 rfl rfl ?_
  refine j_iload_n 37 4 dX1_tellCall_36 rfl rfl ?_
  refine j_iload 39 5 dX1_tellCall_37 rfl rfl ?_
  refine j_callV 42 (As := [.int (i32 (x)), .int (i32 (y)), .int (i32 (z)), .int (i32 (u))]) (kc2 := 0) (ks2 := 0) dX1_tellCall_39 rfl mvX0_tell lk_X1_127 (hE.cl ((c : Int)).toNat (show ((c : Int)).toNat < 40 by omega)) rfl ⟨Nat.le_of_ble_eq_true rfl, rfl⟩ rfl rfl (Nat.le_of_ble_eq_true rfl) ⟨Nat.le_of_ble_eq_true rfl, Nat.le_of_ble_eq_true rfl⟩ ⟨Nat.le_of_ble_eq_true rfl, Nat.le_of_ble_eq_true rfl⟩ (c_tell (hE.cl c hc40) hx hy hz hu) x_d (k_d0 ?_)
  refine j_aload_n 43 1 dX1_tellCall_42 rfl rfl ?_
  refine j_dup 44 dX1_tellCall_43 rfl rfl ?_
  refine j_geti 47 dX1_tellCall_44 rfl fl_X1_71 hE.ex rfl rfl (fun r_44 => ?_)
  refine j_top (y := (c : Int)) ((up12 (by omega)).trans hc) ?_
  refine j_iconst 48 dX1_tellCall_47 rfl ?_
  refine j_iadd 49 dX1_tellCall_48 rfl ?_
  refine j_puti 52 dX1_tellCall_49 rfl fl_X1_71 hE.ex rfl rfl rfl (r32 (by omega) (by omega)) ?_
  refine j_mn (fun g_49 hg_49 => ?_)
  refine j_aload 54 0 dX1_tellCall_52 rfl rfl ?_
  refine j_geti 57 dX1_tellCall_54 rfl fl_X1_130 (hE.cl ((c : Int)).toNat (show ((c : Int)).toNat < 40 by omega)) rfl rfl (fun r_54 => ?_)
  exact j_iret dX1_tellCall_57 rfl (q_gi (by rw [hg_49, up2_a (by omega), Int.toNat_natCast, up12_0]; exact hI.2.2.2.2 c hc40) (by rw [hg_49]; exact telC_eq))
