/-! an Exchange made new; sizes; statements -/
def CL1 (g gk : Mem) (e k : Nat) : Prop := (∀ a, (a < e + 26 ∨ e + 26 + k ≤ a) → gk a = g a) ∧ ∀ r, r < k → gk (e + 26 + r) 0 = g (e + 26 + r) 0 ∧ gk (e + 26 + r) 1 = -1 ∧ gk (e + 26 + r) 2 = 1 ∧ gk (e + 26 + r) 3 = 0
def CL2 (g gk : Mem) (e k : Nat) : Prop := (∀ a, (a < e + 31 ∨ e + 31 + k ≤ a) → gk a = g a) ∧ ∀ r, r < k → gk (e + 31 + r) 0 = g (e + 31 + r) 0 ∧ gk (e + 31 + r) 1 = -1 ∧ gk (e + 31 + r) 2 = 0
def CL3 (g gk : Mem) (e k : Nat) : Prop := (∀ a, (a < e + 35 ∨ e + 35 + k ≤ a) → gk a = g a) ∧ ∀ r, r < k → gk (e + 35 + r) 0 = g (e + 35 + r) 0 ∧ gk (e + 35 + r) 1 = -1
def ClrX (g : Mem) (e : Nat) : Prop := ExI g e ∧ (g e 2 = 0 ∧ g e 3 = 0 ∧ g e 4 = 0 ∧ g e 5 = 0 ∧ g e 6 = 0 ∧ g e 7 = 40 ∧ g e 8 = 5 ∧ g e 9 = 2 ∧ g e 10 = 0 ∧ g e 11 = 0) ∧ (∀ r, r < 4 → g (e + 26 + r) 1 = -1 ∧ g (e + 26 + r) 2 = 1 ∧ g (e + 26 + r) 3 = 0) ∧
  (∀ k, k < 3 → g (e + 31 + k) 1 = -1 ∧ g (e + 31 + k) 2 = 0) ∧ ∀ c, c < 40 → g (e + 35 + c) 1 = -1
section CLR
variable {g ga gb gc gk : Mem} {e k : Nat}
theorem CL1.z : CL1 g g e 0 := ⟨fun _ _ => rfl, fun r hr => absurd hr (Nat.not_lt_zero r)⟩
theorem CL2.z : CL2 g g e 0 := ⟨fun _ _ => rfl, fun r hr => absurd hr (Nat.not_lt_zero r)⟩
theorem CL3.z : CL3 g g e 0 := ⟨fun _ _ => rfl, fun r hr => absurd hr (Nat.not_lt_zero r)⟩
theorem CL1.s (h : CL1 g gk e k) : CL1 g (up2 (up2 (up2 gk (e + 26 + k) 1 (-1)) (e + 26 + k) 2 1) (e + 26 + k) 3 0) e (k + 1) := by
  refine ⟨fun a ha => by rw [up2_row (by omega), up2_row (by omega), up2_row (by omega)]; exact h.1 a (by omega), fun r hr => ?_⟩
  by_cases z : r = k
  · subst z
    refine ⟨?_, ?_, ?_, up2_s⟩
    · rw [up2_k (by decide), up2_k (by decide), up2_k (by decide), h.1 _ (by omega)]
    · rw [up2_k (by decide), up2_k (by decide), up2_s]
    · rw [up2_k (by decide), up2_s]
  · rw [up2_row (by omega), up2_row (by omega), up2_row (by omega)]
    exact h.2 r (by omega)
theorem CL2.s (h : CL2 g gk e k) : CL2 g (up2 (up2 gk (e + 31 + k) 1 (-1)) (e + 31 + k) 2 0) e (k + 1) := by
  refine ⟨fun a ha => by rw [up2_row (by omega), up2_row (by omega)]; exact h.1 a (by omega), fun r hr => ?_⟩
  by_cases z : r = k
  · subst z
    refine ⟨?_, ?_, up2_s⟩
    · rw [up2_k (by decide), up2_k (by decide), h.1 _ (by omega)]
    · rw [up2_k (by decide), up2_s]
  · rw [up2_row (by omega), up2_row (by omega)]
    exact h.2 r (by omega)
theorem CL3.s (h : CL3 g gk e k) : CL3 g (up2 gk (e + 35 + k) 1 (-1)) e (k + 1) := by
  refine ⟨fun a ha => by rw [up2_row (by omega)]; exact h.1 a (by omega), fun r hr => ?_⟩
  by_cases z : r = k
  · subst z
    refine ⟨?_, up2_s⟩
    rw [up2_k (by decide), h.1 _ (by omega)]
  · rw [up2_row (by omega)]
    exact h.2 r (by omega)
theorem ClrX.mk (hI : ExI g e) (hF : ∀ a, a ≠ e → gk a = g a) (hS : gk e 2 = 0 ∧ gk e 3 = 0 ∧ gk e 4 = 0 ∧ gk e 5 = 0 ∧ gk e 6 = 0 ∧ gk e 7 = 40 ∧ gk e 8 = 5 ∧ gk e 9 = 2 ∧ gk e 10 = 0 ∧ gk e 11 = 0) (h1 : CL1 gk ga e 4) (h2 : CL2 ga gb e 3) (h3 : CL3 gb gc e 40) :
    ClrX gc e ∧ Fr g gc e ∧ gc e = gk e := by
  have he : gc e = gk e := by rw [h3.1 e (by omega), h2.1 e (by omega), h1.1 e (by omega)]
  refine ⟨⟨⟨fun i hi => ?_, fun i hi => ?_, fun i hi => ?_, fun i hi => ?_, fun i hi => ?_⟩, by rw [he]; exact hS, fun r hr => ?_, fun r hr => ?_, fun r hr => (h3.2 r hr).2⟩, fun a ha => ?_, he⟩
  · rw [h3.1 _ (by omega), h2.1 _ (by omega), h1.1 _ (by omega), hF _ (by omega)]; exact hI.1 i hi
  · rw [h3.1 _ (by omega), h2.1 _ (by omega), h1.1 _ (by omega), hF _ (by omega)]; exact hI.2.1 i hi
  · rw [h3.1 _ (by omega), h2.1 _ (by omega), (h1.2 i hi).1, hF _ (by omega)]; exact hI.2.2.1 i hi
  · rw [h3.1 _ (by omega), (h2.2 i hi).1, h1.1 _ (by omega), hF _ (by omega)]; exact hI.2.2.2.1 i hi
  · rw [(h3.2 i hi).1, h2.1 _ (by omega), h1.1 _ (by omega), hF _ (by omega)]; exact hI.2.2.2.2 i hi
  · rw [h3.1 _ (by omega), h2.1 _ (by omega)]; exact (h1.2 r hr).2
  · rw [h3.1 _ (by omega)]; exact (h2.2 r hr).2
  · rw [h3.1 _ (by omega), h2.1 _ (by omega), h1.1 _ (by omega), hF _ (by omega)]
theorem ClrX.rel {r m : Int} (h : ClrX g e) (h0 : g e 0 = r) (h1 : g e 1 = m) : RelX g e (row0 r m) := by
  obtain ⟨hI, ⟨a2, a3, a4, a5, a6, a7, a8, a9, a10, a11⟩, hr, hk, hc⟩ := h
  refine ⟨hI, ⟨h0, h1, a2, a3, a4, a5, a6, a7, a8, a9, a10, a11⟩, fun i hi => absurd (show (i : Int) < 0 from hi) (by omega), fun i hi => absurd (show (i : Int) < 0 from hi) (by omega), fun i hi => absurd (show (i : Int) < 0 from hi) (by omega), fun r hr4 => ?_, fun k hk3 => ?_, fun c hc40 => ?_⟩
  · obtain ⟨b1, b2, b3⟩ := hr r hr4
    have : r = 0 ∨ r = 1 ∨ r = 2 ∨ r = 3 := by omega
    rcases this with rfl | rfl | rfl | rfl <;> exact ⟨b1, b3, b2⟩
  · obtain ⟨b1, b2⟩ := hk k hk3
    have : k = 0 ∨ k = 1 ∨ k = 2 := by omega
    rcases this with rfl | rfl | rfl <;> exact ⟨b1, b2⟩
  · show if (c : Int) < 0 then _ else _
    rw [if_neg (by omega)]
    exact hc c hc40
end CLR

set_option maxRecDepth 20000 in
theorem c_clear {w : Wd} {sh : Shp} {g : Mem} {e : Nat} (hE : ExS sh.1 e) (hI : ExI g e)  : CT w mX1_clear [.ref (e)] sh g (vQ sh (fun g2 => ClrX g2 e ∧ Fr g g2 e ∧ g2 e 0 = 1 ∧ g2 e 1 = 1)) := by
  refine j_entry (by decide) rfl (Nat.le_of_ble_eq_true rfl) (fun h => by cases h) rfl ?_
  show J w mX1_clear 0 [(0, .ref (e))] [] sh g 0 0 _
  refine j_aload_n 1 0 dX1_clear_0 rfl rfl ?_
  refine j_iconst 2 dX1_clear_1 rfl ?_
  refine j_puti 5 dX1_clear_2 rfl fl_X1_55 hE.ex rfl rfl rfl (r32 (by decide) (by decide)) ?_
  refine j_mn (fun g_2 hg_2 => ?_)
  refine j_aload_n 6 0 dX1_clear_5 rfl rfl ?_
  refine j_iconst 7 dX1_clear_6 rfl ?_
  refine j_puti 10 dX1_clear_7 rfl fl_X1_59 hE.ex rfl rfl rfl (r32 (by decide) (by decide)) ?_
  refine j_mn (fun g_7 hg_7 => ?_)
  refine j_aload_n 11 0 dX1_clear_10 rfl rfl ?_
  refine j_iconst 12 dX1_clear_11 rfl ?_
  refine j_puti 15 dX1_clear_12 rfl fl_X1_62 hE.ex rfl rfl rfl (r32 (by decide) (by decide)) ?_
  refine j_mn (fun g_12 hg_12 => ?_)
  refine j_aload_n 16 0 dX1_clear_15 rfl rfl ?_
  refine j_iconst 17 dX1_clear_16 rfl ?_
  refine j_puti 20 dX1_clear_17 rfl fl_X1_65 hE.ex rfl rfl rfl (r32 (by decide) (by decide)) ?_
  refine j_mn (fun g_17 hg_17 => ?_)
  refine j_aload_n 21 0 dX1_clear_20 rfl rfl ?_
  refine j_iconst 22 dX1_clear_21 rfl ?_
  refine j_puti 25 dX1_clear_22 rfl fl_X1_68 hE.ex rfl rfl rfl (r32 (by decide) (by decide)) ?_
  refine j_mn (fun g_22 hg_22 => ?_)
  refine j_aload_n 26 0 dX1_clear_25 rfl rfl ?_
  refine j_iconst 27 dX1_clear_26 rfl ?_
  refine j_puti 30 dX1_clear_27 rfl fl_X1_71 hE.ex rfl rfl rfl (r32 (by decide) (by decide)) ?_
  refine j_mn (fun g_27 hg_27 => ?_)
  refine j_aload_n 31 0 dX1_clear_30 rfl rfl ?_
  refine j_iconst 32 dX1_clear_31 rfl ?_
  refine j_puti 35 dX1_clear_32 rfl fl_X1_74 hE.ex rfl rfl rfl (r32 (by decide) (by decide)) ?_
  refine j_mn (fun g_32 hg_32 => ?_)
  refine j_aload_n 36 0 dX1_clear_35 rfl rfl ?_
  refine j_bipush 38 dX1_clear_36 rfl (by decide) ?_
  refine j_puti 41 dX1_clear_38 rfl fl_X1_77 hE.ex rfl rfl rfl (r32 (by decide) (by decide)) ?_
  refine j_mn (fun g_38 hg_38 => ?_)
  refine j_aload_n 42 0 dX1_clear_41 rfl rfl ?_
  refine j_iconst 43 dX1_clear_42 rfl ?_
  refine j_puti 46 dX1_clear_43 rfl fl_X1_80 hE.ex rfl rfl rfl (r32 (by decide) (by decide)) ?_
  refine j_mn (fun g_43 hg_43 => ?_)
  refine j_aload_n 47 0 dX1_clear_46 rfl rfl ?_
  refine j_iconst 48 dX1_clear_47 rfl ?_
  refine j_puti 51 dX1_clear_48 rfl fl_X1_83 hE.ex rfl rfl rfl (r32 (by decide) (by decide)) ?_
  refine j_mn (fun g_48 hg_48 => ?_)
  refine j_aload_n 52 0 dX1_clear_51 rfl rfl ?_
  refine j_iconst 53 dX1_clear_52 rfl ?_
  refine j_puti 56 dX1_clear_53 rfl fl_X1_86 hE.ex rfl rfl rfl (r32 (by decide) (by decide)) ?_
  refine j_mn (fun g_53 hg_53 => ?_)
  refine j_aload_n 57 0 dX1_clear_56 rfl rfl ?_
  refine j_iconst 58 dX1_clear_57 rfl ?_
  refine j_puti 61 dX1_clear_58 rfl fl_X1_89 hE.ex rfl rfl rfl (r32 (by decide) (by decide)) ?_
  refine j_mn (fun g_58 hg_58 => ?_)
  refine j_aload_n 62 0 dX1_clear_61 rfl rfl ?_
  refine j_iconst 63 dX1_clear_62 rfl ?_
  refine j_putz 66 dX1_clear_63 rfl fl_X1_92 hE.ex rfl rfl rfl (Or.inl rfl) ?_
  refine j_mn (fun g_63 hg_63 => ?_)
  have hF0 : ∀ a, a ≠ e → g_63 a = g a := fun a ha => by rw [hg_63, up2_row ha, hg_58, up2_row ha, hg_53, up2_row ha, hg_48, up2_row ha, hg_43, up2_row ha, hg_38, up2_row ha, hg_32, up2_row ha, hg_27, up2_row ha, hg_22, up2_row ha, hg_17, up2_row ha, hg_12, up2_row ha, hg_7, up2_row ha, hg_2, up2_row ha]
  have hS : (g_63 e 2 = 0 ∧ g_63 e 3 = 0 ∧ g_63 e 4 = 0 ∧ g_63 e 5 = 0 ∧ g_63 e 6 = 0 ∧ g_63 e 7 = 40 ∧ g_63 e 8 = 5 ∧ g_63 e 9 = 2 ∧ g_63 e 10 = 0 ∧ g_63 e 11 = 0) ∧ g_63 e 0 = 1 ∧ g_63 e 1 = 1 := by rw [hg_63, hg_58, hg_53, hg_48, hg_43, hg_38, hg_32, hg_27, hg_22, hg_17, hg_12, hg_7, hg_2]; simp [up2]
  refine j_aload_n 67 0 dX1_clear_66 rfl rfl ?_
  refine j_getr 70 dX1_clear_67 rfl fl_X1_33 hE.ex rfl (fun _ _ => rfl) rfl ?_
  refine j_astore_n 71 (L2 := [(1, .ref (e + 25)), (0, .ref (e))]) dX1_clear_70 rfl rfl (Nat.le_of_ble_eq_true rfl) rfl ?_
  refine j_aload_n 72 0 dX1_clear_71 rfl rfl ?_
  refine j_alen 73 dX1_clear_72 rfl hE.rgs (Nat.le_of_ble_eq_true rfl) rfl ?_
  refine j_top (y := 4) rfl ?_
  refine j_istore_n 74 (L2 := [(2, .int (i32 (4))), (1, .ref (e + 25)), (0, .ref (e))]) dX1_clear_73 rfl rfl (Nat.le_of_ble_eq_true rfl) rfl ?_
  refine j_iconst 75 dX1_clear_74 rfl ?_
  refine j_istore_n 76 (L2 := [(3, .int (i32 (0))), (2, .int (i32 (4))), (1, .ref (e + 25)), (0, .ref (e))]) dX1_clear_75 rfl rfl (Nat.le_of_ble_eq_true rfl) rfl ?_
  suffices lp_76 : ∀ (n_76 : Nat) (k : Nat) (ga : Mem), 4 - k < n_76 → k ≤ 4 → CL1 g_63 ga e k → J w mX1_clear 76 [(3, .int (i32 ((k : Int)))), (2, .int (i32 (4))), (1, .ref (e + 25)), (0, .ref (e))] [] sh ga 0 0 (vQ sh (fun g2 => ClrX g2 e ∧ Fr g g2 e ∧ g2 e 0 = 1 ∧ g2 e 1 = 1)) by
    exact lp_76 _ 0 _ (Nat.lt_succ_self _) (by omega) CL1.z
  intro n_76
  induction n_76 with
  | zero => intro k ga h_; exact absurd h_ (Nat.not_lt_zero _)
  | succ n_76 ih_76 =>
    intro k ga hn_76 hk hC1
    refine j_iload_n 77 0 dX1_clear_76 rfl rfl ?_
    refine j_iload_n 78 1 dX1_clear_77 rfl rfl ?_
    refine j_icmp_ge 81 98 dX1_clear_78 rfl rfl (r32 (by omega) (by omega)) (r32 (by decide) (by decide)) (fun c_78 => ?_) (fun c_78 => ?_)
    · have hC14 : CL1 g_63 ga e 4 := by rw [show (4 : Nat) = k by omega]; exact hC1
      refine j_aload_n 99 3 dX1_clear_98 rfl rfl ?_
      refine j_getr 102 dX1_clear_99 rfl fl_X1_40 hE.ex rfl (fun _ _ => rfl) rfl ?_
      refine j_astore_n 103 (L2 := [(1, .ref (e + 30)), (3, .int (i32 ((k : Int)))), (2, .int (i32 (4))), (0, .ref (e))]) dX1_clear_102 rfl rfl (Nat.le_of_ble_eq_true rfl) rfl ?_
      refine j_aload_n 104 0 dX1_clear_103 rfl rfl ?_
      refine j_alen 105 dX1_clear_104 rfl hE.mks (Nat.le_of_ble_eq_true rfl) rfl ?_
      refine j_top (y := 3) rfl ?_
      refine j_istore_n 106 (L2 := [(2, .int (i32 (3))), (1, .ref (e + 30)), (3, .int (i32 ((k : Int)))), (0, .ref (e))]) dX1_clear_105 rfl rfl (Nat.le_of_ble_eq_true rfl) rfl ?_
      refine j_iconst 107 dX1_clear_106 rfl ?_
      refine j_istore_n 108 (L2 := [(3, .int (i32 (0))), (2, .int (i32 (3))), (1, .ref (e + 30)), (0, .ref (e))]) dX1_clear_107 rfl rfl (Nat.le_of_ble_eq_true rfl) rfl ?_
      suffices lp_108 : ∀ (n_108 : Nat) (k2 : Nat) (gb : Mem), 3 - k2 < n_108 → k2 ≤ 3 → CL2 ga gb e k2 → J w mX1_clear 108 [(3, .int (i32 ((k2 : Int)))), (2, .int (i32 (3))), (1, .ref (e + 30)), (0, .ref (e))] [] sh gb 0 0 (vQ sh (fun g2 => ClrX g2 e ∧ Fr g g2 e ∧ g2 e 0 = 1 ∧ g2 e 1 = 1)) by
        exact lp_108 _ 0 _ (Nat.lt_succ_self _) (by omega) CL2.z
      intro n_108
      induction n_108 with
      | zero => intro k2 gb h_; exact absurd h_ (Nat.not_lt_zero _)
      | succ n_108 ih_108 =>
        intro k2 gb hn_108 hk2 hC2
        refine j_iload_n 109 0 dX1_clear_108 rfl rfl ?_
        refine j_iload_n 110 1 dX1_clear_109 rfl rfl ?_
        refine j_icmp_ge 113 131 dX1_clear_110 rfl rfl (r32 (by omega) (by omega)) (r32 (by decide) (by decide)) (fun c_110 => ?_) (fun c_110 => ?_)
        · have hC24 : CL2 ga gb e 3 := by rw [show (3 : Nat) = k2 by omega]; exact hC2
          refine j_aload_n 132 3 dX1_clear_131 rfl rfl ?_
          refine j_getr 135 dX1_clear_132 rfl fl_X1_47 hE.ex rfl (fun _ _ => rfl) rfl ?_
          refine j_astore_n 136 (L2 := [(1, .ref (e + 34)), (3, .int (i32 ((k2 : Int)))), (2, .int (i32 (3))), (0, .ref (e))]) dX1_clear_135 rfl rfl (Nat.le_of_ble_eq_true rfl) rfl ?_
          refine j_aload_n 137 0 dX1_clear_136 rfl rfl ?_
          refine j_alen 138 dX1_clear_137 rfl hE.cls (Nat.le_of_ble_eq_true rfl) rfl ?_
          refine j_top (y := 40) rfl ?_
          refine j_istore_n 139 (L2 := [(2, .int (i32 (40))), (1, .ref (e + 34)), (3, .int (i32 ((k2 : Int)))), (0, .ref (e))]) dX1_clear_138 rfl rfl (Nat.le_of_ble_eq_true rfl) rfl ?_
          refine j_iconst 140 dX1_clear_139 rfl ?_
          refine j_istore_n 141 (L2 := [(3, .int (i32 (0))), (2, .int (i32 (40))), (1, .ref (e + 34)), (0, .ref (e))]) dX1_clear_140 rfl rfl (Nat.le_of_ble_eq_true rfl) rfl ?_
          suffices lp_141 : ∀ (n_141 : Nat) (k3 : Nat) (gc : Mem), 40 - k3 < n_141 → k3 ≤ 40 → CL3 gb gc e k3 → J w mX1_clear 141 [(3, .int (i32 ((k3 : Int)))), (2, .int (i32 (40))), (1, .ref (e + 34)), (0, .ref (e))] [] sh gc 0 0 (vQ sh (fun g2 => ClrX g2 e ∧ Fr g g2 e ∧ g2 e 0 = 1 ∧ g2 e 1 = 1)) by
            exact lp_141 _ 0 _ (Nat.lt_succ_self _) (by omega) CL3.z
          intro n_141
          induction n_141 with
          | zero => intro k3 gc h_; exact absurd h_ (Nat.not_lt_zero _)
          | succ n_141 ih_141 =>
            intro k3 gc hn_141 hk3 hC3
            refine j_iload_n 142 0 dX1_clear_141 rfl rfl ?_
            refine j_iload_n 143 1 dX1_clear_142 rfl rfl ?_
            refine j_icmp_ge 146 163 dX1_clear_143 rfl rfl (r32 (by omega) (by omega)) (r32 (by decide) (by decide)) (fun c_143 => ?_) (fun c_143 => ?_)
            · have hC34 : CL3 gb gc e 40 := by rw [show (40 : Nat) = k3 by omega]; exact hC3
              have hZ := ClrX.mk hI hF0 hS.1 hC14 hC24 hC34
              exact j_vret dX1_clear_163 rfl (⟨rfl, rfl, hZ.1, hZ.2.1, by rw [hZ.2.2]; exact hS.2.1, by rw [hZ.2.2]; exact hS.2.2⟩)
            · refine j_aload_n 147 2 dX1_clear_146 rfl rfl ?_
              refine j_iload_n 148 0 dX1_clear_147 rfl rfl ?_
              refine j_aald 149 k3 dX1_clear_148 rfl hE.cls (Nat.le_of_ble_eq_true rfl) rfl rfl rfl (show k3 < 40 by omega) rfl ?_
              refine j_astore 151 (L2 := [(4, .ref (e + 35 + k3)), (3, .int (i32 ((k3 : Int)))), (2, .int (i32 (40))), (1, .ref (e + 34)), (0, .ref (e))]) dX1_clear_149 rfl (Nat.le_of_ble_eq_true rfl) rfl ?_
              refine j_aload 153 0 dX1_clear_151 rfl rfl ?_
              refine j_iconst 154 dX1_clear_153 rfl ?_
              refine j_puti 157 dX1_clear_154 rfl fl_X1_102 (hE.cl k3 (show k3 < 40 by omega)) rfl rfl rfl (r32 (by decide) (by decide)) ?_
              refine j_mn (fun g_154 hg_154 => ?_)
              refine j_mem hg_154 ?_
              refine j_iinc 160 1 (y := ((k3 + 1 : Nat) : Int)) (L2 := [(3, .int (i32 (((k3 + 1 : Nat) : Int)))), (4, .ref (e + 35 + k3)), (2, .int (i32 (40))), (1, .ref (e + 34)), (0, .ref (e))]) dX1_clear_157 rfl rfl (by omega) (Nat.le_of_ble_eq_true rfl) rfl ?_
              refine j_goto 141 dX1_clear_160 rfl ?_
              refine j_sub [0, 2, 3, 4] rfl ?_
              exact ih_141 (k3 + 1) _ (by omega) (by omega) (hC3.s)
        · refine j_aload_n 114 2 dX1_clear_113 rfl rfl ?_
          refine j_iload_n 115 0 dX1_clear_114 rfl rfl ?_
          refine j_aald 116 k2 dX1_clear_115 rfl hE.mks (Nat.le_of_ble_eq_true rfl) rfl rfl rfl (show k2 < 3 by omega) rfl ?_
          refine j_astore 118 (L2 := [(4, .ref (e + 31 + k2)), (3, .int (i32 ((k2 : Int)))), (2, .int (i32 (3))), (1, .ref (e + 30)), (0, .ref (e))]) dX1_clear_116 rfl (Nat.le_of_ble_eq_true rfl) rfl ?_
          refine j_aload 120 0 dX1_clear_118 rfl rfl ?_
          refine j_iconst 121 dX1_clear_120 rfl ?_
          refine j_iconst 122 dX1_clear_121 rfl ?_
          refine j_callV 125 (As := [.int (i32 (-1)), .int (i32 (0))]) (kc2 := 0) (ks2 := 0) dX1_clear_122 rfl mvX4_serve lk_X1_99 (hE.mk k2 (show k2 < 3 by omega)) rfl ⟨Nat.le_of_ble_eq_true rfl, rfl⟩ rfl rfl (Nat.le_of_ble_eq_true rfl) ⟨Nat.le_of_ble_eq_true rfl, Nat.le_of_ble_eq_true rfl⟩ ⟨Nat.le_of_ble_eq_true rfl, Nat.le_of_ble_eq_true rfl⟩ (c_serveM (hE.mk k2 (show k2 < 3 by omega)) (r32 (by decide) (by decide)) (r32 (by decide) (by decide))) x_d (k_d0 ?_)
          refine j_iinc 128 1 (y := ((k2 + 1 : Nat) : Int)) (L2 := [(3, .int (i32 (((k2 + 1 : Nat) : Int)))), (4, .ref (e + 31 + k2)), (2, .int (i32 (3))), (1, .ref (e + 30)), (0, .ref (e))]) dX1_clear_125 rfl rfl (by omega) (Nat.le_of_ble_eq_true rfl) rfl ?_
          refine j_goto 108 dX1_clear_128 rfl ?_
          refine j_sub [0, 2, 3, 4] rfl ?_
          exact ih_108 (k2 + 1) _ (by omega) (by omega) (hC2.s)
    · refine j_aload_n 82 2 dX1_clear_81 rfl rfl ?_
      refine j_iload_n 83 0 dX1_clear_82 rfl rfl ?_
      refine j_aald 84 k dX1_clear_83 rfl hE.rgs (Nat.le_of_ble_eq_true rfl) rfl rfl rfl (show k < 4 by omega) rfl ?_
      refine j_astore 86 (L2 := [(4, .ref (e + 26 + k)), (3, .int (i32 ((k : Int)))), (2, .int (i32 (4))), (1, .ref (e + 25)), (0, .ref (e))]) dX1_clear_84 rfl (Nat.le_of_ble_eq_true rfl) rfl ?_
      refine j_aload 88 0 dX1_clear_86 rfl rfl ?_
      refine j_iconst 89 dX1_clear_88 rfl ?_
      refine j_callV 92 (As := [.int (i32 (-1))]) (kc2 := 0) (ks2 := 0) dX1_clear_89 rfl mvX5_serve lk_X1_96 (hE.rg k (show k < 4 by omega)) rfl ⟨Nat.le_of_ble_eq_true rfl, rfl⟩ rfl rfl (Nat.le_of_ble_eq_true rfl) ⟨Nat.le_of_ble_eq_true rfl, Nat.le_of_ble_eq_true rfl⟩ ⟨Nat.le_of_ble_eq_true rfl, Nat.le_of_ble_eq_true rfl⟩ (c_serveR (hE.rg k (show k < 4 by omega)) (r32 (by decide) (by decide))) x_d (k_d0 ?_)
      refine j_iinc 95 1 (y := ((k + 1 : Nat) : Int)) (L2 := [(3, .int (i32 (((k + 1 : Nat) : Int)))), (4, .ref (e + 26 + k)), (2, .int (i32 (4))), (1, .ref (e + 25)), (0, .ref (e))]) dX1_clear_92 rfl rfl (by omega) (Nat.le_of_ble_eq_true rfl) rfl ?_
      refine j_goto 76 dX1_clear_95 rfl ?_
      refine j_sub [0, 2, 3, 4] rfl ?_
      exact ih_76 (k + 1) _ (by omega) (by omega) (hC1.s)

theorem ExI.row {g g2 : Mem} {e : Nat} (h : ExI g e) (e3 : ∀ a, a ≠ e → g2 a = g a) : ExI g2 e :=
  ⟨fun i hi => by rw [e3 _ (by omega)]; exact h.1 i hi, fun i hi => by rw [e3 _ (by omega)]; exact h.2.1 i hi, fun i hi => by rw [e3 _ (by omega)]; exact h.2.2.1 i hi, fun i hi => by rw [e3 _ (by omega)]; exact h.2.2.2.1 i hi, fun i hi => by rw [e3 _ (by omega)]; exact h.2.2.2.2 i hi⟩

set_option maxRecDepth 20000 in
theorem c_tellSize {w : Wd} {sh : Shp} {g : Mem} {e : Nat} (hE : ExS sh.1 e) (hI : ExI g e) {r m : Int} (hr : R32 r) (hm : R32 m)  : CT w mX1_tellSize [.ref (e), .int (i32 (r)), .int (i32 (m))] sh g (vQ sh (fun g2 => RelX g2 e (row0 r m) ∧ Fr g g2 e)) := by
  refine j_entry (by decide) rfl (Nat.le_of_ble_eq_true rfl) (fun h => by cases h) rfl ?_
  show J w mX1_tellSize 0 [(0, .ref (e)), (1, .int (i32 (r))), (2, .int (i32 (m)))] [] sh g 0 0 _
  refine j_aload_n 1 0 dX1_tellSize_0 rfl rfl ?_
  refine j_callV 4 (As := []) (kc2 := 0) (ks2 := 0) dX1_tellSize_1 rfl mvX1_clear lk_X1_52 hE.ex rfl ⟨Nat.le_of_ble_eq_true rfl, rfl⟩ rfl rfl (Nat.le_of_ble_eq_true rfl) ⟨Nat.le_of_ble_eq_true rfl, Nat.le_of_ble_eq_true rfl⟩ ⟨Nat.le_of_ble_eq_true rfl, Nat.le_of_ble_eq_true rfl⟩ (c_clear hE hI) x_v (k_v fun g_1 h_1 => ?_)
  obtain ⟨hZ, hF, h0, h1⟩ := h_1
  refine j_aload_n 5 0 dX1_tellSize_4 rfl rfl ?_
  refine j_iload_n 6 1 dX1_tellSize_5 rfl rfl ?_
  refine j_puti 9 dX1_tellSize_6 rfl fl_X1_55 hE.ex rfl rfl rfl hr ?_
  refine j_mn (fun g_6 hg_6 => ?_)
  refine j_aload_n 10 0 dX1_tellSize_9 rfl rfl ?_
  refine j_iload_n 11 2 dX1_tellSize_10 rfl rfl ?_
  refine j_puti 14 dX1_tellSize_11 rfl fl_X1_59 hE.ex rfl rfl rfl hm ?_
  refine j_mn (fun g_11 hg_11 => ?_)
  exact j_vret dX1_tellSize_14 rfl (⟨rfl, rfl, by
    have e2 : ∀ j, 2 ≤ j → g_11 e j = g_1 e j := fun j hj => by rw [hg_11, up2_k (by omega), hg_6, up2_k (by omega)]
    have e3 : ∀ a, a ≠ e → g_11 a = g_1 a := fun a ha => by rw [hg_11, up2_row ha, hg_6, up2_row ha]
    refine ⟨ClrX.rel ⟨ExI.row hZ.1 e3, ?_, ?_, ?_, ?_⟩ ?_ ?_, fun a ha => ?_⟩
    · rw [e2 2 (by decide), e2 3 (by decide), e2 4 (by decide), e2 5 (by decide), e2 6 (by decide), e2 7 (by decide), e2 8 (by decide), e2 9 (by decide), e2 10 (by decide), e2 11 (by decide)]; exact hZ.2.1
    · intro r hr; rw [e3 _ (by omega)]; exact hZ.2.2.1 r hr
    · intro r hr; rw [e3 _ (by omega)]; exact hZ.2.2.2.1 r hr
    · intro r hr; rw [e3 _ (by omega)]; exact hZ.2.2.2.2 r hr
    · rw [hg_11, up2_k (by decide), hg_6, up2_s]
    · rw [hg_11, up2_s]
    · rw [e3 a (by omega)]; exact hF a ha⟩)

def P_word2 (T : Tx) (d : Nat → Int) (s : Nat → Bool) (st : Nat) : PR :=
  if wdB T st 1 = true then P_line T st d s (st + 4) else if wdB T st 2 = true then P_group T st d s (st + 5) else if wdB T st 3 = true then P_route2 T st d s (st + 5) else
  if wdB T st 4 = true then P_call T st d s (st + 4) else P_rules T d s st
theorem word_semi {T : Tx} {d : Nat → Int} {s : Nat → Bool} {st : Nat} : semi T (P_word T d s st) = semi T (P_word2 T d s st) := by
  unfold P_word P_word2 P_rules
  by_cases c1 : wdB T st 1 = true
  · rw [if_pos c1, if_pos c1]
  · rw [if_neg c1, if_neg c1]
    by_cases c2 : wdB T st 2 = true
    · rw [if_pos c2, if_pos c2]
    · rw [if_neg c2, if_neg c2]
      by_cases c3 : wdB T st 3 = true
      · rw [if_pos c3, if_pos c3]; exact route_semi
      · rw [if_neg c3, if_neg c3]
theorem CP.z {g g2 : Mem} {R tx : Nat} {T : Tx} {res : PR} {z : Int} (h : CP g R tx T res z g2) : z = 0 ∨ z = 1 := by
  obtain ⟨-, h⟩ := h
  cases res with
  | inl r => exact Or.inr h.1
  | inr r => exact Or.inl h.1

set_option maxRecDepth 20000 in
theorem c_stmt1 {w : Wd} {sh : Shp} {g : Mem} {R tx : Nat} (hR : RdS sh.1 R tx) {T : Tx} {d : Nat → Int} {s : Nat → Bool} {st : Nat} (htx : tx < R ∨ R + 76 ≤ tx) (H0 : CRd g R tx T d s st)  (w1 : wdB T st 1 = true) : CT w mX8_readStatement [.ref (R)] sh g (iQ sh (CP g R tx T (P_word2 T d s st))) := by
  have F0 : FrR g g R := FrR.rf
  have hX0 := H0.1
  have hk0 := H0.2.1
  have hq0 := H0.2.2.1
  have hR0 := H0.2.2.2.1
  have hP0 := H0.2.2.2.2.1
  have hT7 := hX0.1
  have hTb := hX0.2.2.2
  have hbb := hP0.1
  have hr0 := hk0.2.2.1
  have hb2 := hbb.2.2.1
  have hb3 := hbb.2.2.2.1
  have hb4 := hbb.2.2.2.2.1
  have hb5 := hbb.2.2.2.2.2.1
  refine j_entry (by decide) rfl (Nat.le_of_ble_eq_true rfl) (fun h => by cases h) rfl ?_
  show J w mX8_readStatement 0 [(0, .ref (R))] [] sh g 0 0 _
  refine j_aload_n 1 0 dX8_readStatement_0 rfl rfl ?_
  refine j_ldcS 3 (i := 1) dX8_readStatement_1 rfl (tx := "line") (by decide) ?_
  refine j_callV 6 (As := [.ref (w.2.1 (100 + 1))]) (kc2 := 0) (ks2 := 0) dX8_readStatement_3 rfl mvX8_isWord lk_X8_63 hR.rd rfl ⟨Nat.le_of_ble_eq_true rfl, rfl⟩ rfl rfl (Nat.le_of_ble_eq_true rfl) ⟨Nat.le_of_ble_eq_true rfl, Nat.le_of_ble_eq_true rfl⟩ ⟨Nat.le_of_ble_eq_true rfl, Nat.le_of_ble_eq_true rfl⟩ (c_isWord hR hX0 hk0 hq0 (by decide)) x_d (k_d1 ?_)
  refine j_top (y := 1) (bo1 w1) ?_
  refine j_if_eq 9 14 dX8_readStatement_6 rfl rfl (r32 (by decide) (by decide)) (fun c_6 => absurd c_6 (by decide)) (fun c_6 => ?_)
  refine j_aload_n 10 0 dX8_readStatement_9 rfl rfl ?_
  refine j_callV 13 (As := []) (kc2 := 0) (ks2 := 0) dX8_readStatement_10 rfl mvX8_readLine lk_X8_84 hR.rd rfl ⟨Nat.le_of_ble_eq_true rfl, rfl⟩ rfl rfl (Nat.le_of_ble_eq_true rfl) ⟨Nat.le_of_ble_eq_true rfl, Nat.le_of_ble_eq_true rfl⟩ ⟨Nat.le_of_ble_eq_true rfl, Nat.le_of_ble_eq_true rfl⟩ (c_readLine hR htx H0) x_i (k_i fun z_10 g_10 h_10 => ?_)
  exact j_zret dX8_readStatement_13 rfl (CP.z h_10) (⟨_, rfl, rfl, by
    have h1 : ln T st = 4 := (wd_iff.mp w1).1
    have h2 : szT T st = 4 := by rw [sz_L hTb (by omega)]; exact h1
    have h3 := h_10
    rw [h2] at h3
    unfold P_word2
    rw [if_pos w1]
    exact h3⟩)

set_option maxRecDepth 20000 in
theorem c_stmt2 {w : Wd} {sh : Shp} {g : Mem} {R tx : Nat} (hR : RdS sh.1 R tx) {T : Tx} {d : Nat → Int} {s : Nat → Bool} {st : Nat} (htx : tx < R ∨ R + 76 ≤ tx) (H0 : CRd g R tx T d s st) (w1 : wdB T st 1 = false) (w2 : wdB T st 2 = true) : CT w mX8_readStatement [.ref (R)] sh g (iQ sh (CP g R tx T (P_word2 T d s st))) := by
  have F0 : FrR g g R := FrR.rf
  have hX0 := H0.1
  have hk0 := H0.2.1
  have hq0 := H0.2.2.1
  have hR0 := H0.2.2.2.1
  have hP0 := H0.2.2.2.2.1
  have hT7 := hX0.1
  have hTb := hX0.2.2.2
  have hbb := hP0.1
  have hr0 := hk0.2.2.1
  have hb2 := hbb.2.2.1
  have hb3 := hbb.2.2.2.1
  have hb4 := hbb.2.2.2.2.1
  have hb5 := hbb.2.2.2.2.2.1
  refine j_entry (by decide) rfl (Nat.le_of_ble_eq_true rfl) (fun h => by cases h) rfl ?_
  show J w mX8_readStatement 0 [(0, .ref (R))] [] sh g 0 0 _
  refine j_aload_n 1 0 dX8_readStatement_0 rfl rfl ?_
  refine j_ldcS 3 (i := 1) dX8_readStatement_1 rfl (tx := "line") (by decide) ?_
  refine j_callV 6 (As := [.ref (w.2.1 (100 + 1))]) (kc2 := 0) (ks2 := 0) dX8_readStatement_3 rfl mvX8_isWord lk_X8_63 hR.rd rfl ⟨Nat.le_of_ble_eq_true rfl, rfl⟩ rfl rfl (Nat.le_of_ble_eq_true rfl) ⟨Nat.le_of_ble_eq_true rfl, Nat.le_of_ble_eq_true rfl⟩ ⟨Nat.le_of_ble_eq_true rfl, Nat.le_of_ble_eq_true rfl⟩ (c_isWord hR hX0 hk0 hq0 (by decide)) x_d (k_d1 ?_)
  refine j_top (y := 0) (bo0 w1) ?_
  refine j_if_eq 9 14 dX8_readStatement_6 rfl rfl (r32 (by decide) (by decide)) (fun c_6 => ?_) (fun c_6 => absurd c_6 (by decide))
  refine j_aload_n 15 0 dX8_readStatement_14 rfl rfl ?_
  refine j_ldcS 17 (i := 2) dX8_readStatement_15 rfl (tx := "group") (by decide) ?_
  refine j_callV 20 (As := [.ref (w.2.1 (100 + 2))]) (kc2 := 0) (ks2 := 0) dX8_readStatement_17 rfl mvX8_isWord lk_X8_63 hR.rd rfl ⟨Nat.le_of_ble_eq_true rfl, rfl⟩ rfl rfl (Nat.le_of_ble_eq_true rfl) ⟨Nat.le_of_ble_eq_true rfl, Nat.le_of_ble_eq_true rfl⟩ ⟨Nat.le_of_ble_eq_true rfl, Nat.le_of_ble_eq_true rfl⟩ (c_isWord hR hX0 hk0 hq0 (by decide)) x_d (k_d1 ?_)
  refine j_top (y := 1) (bo1 w2) ?_
  refine j_if_eq 23 28 dX8_readStatement_20 rfl rfl (r32 (by decide) (by decide)) (fun c_20 => absurd c_20 (by decide)) (fun c_20 => ?_)
  refine j_aload_n 24 0 dX8_readStatement_23 rfl rfl ?_
  refine j_callV 27 (As := []) (kc2 := 0) (ks2 := 0) dX8_readStatement_24 rfl mvX8_readGroup lk_X8_89 hR.rd rfl ⟨Nat.le_of_ble_eq_true rfl, rfl⟩ rfl rfl (Nat.le_of_ble_eq_true rfl) ⟨Nat.le_of_ble_eq_true rfl, Nat.le_of_ble_eq_true rfl⟩ ⟨Nat.le_of_ble_eq_true rfl, Nat.le_of_ble_eq_true rfl⟩ (c_readGroup hR htx H0) x_i (k_i fun z_24 g_24 h_24 => ?_)
  exact j_zret dX8_readStatement_27 rfl (CP.z h_24) (⟨_, rfl, rfl, by
    have h1 : ln T st = 5 := (wd_iff.mp w2).1
    have h2 : szT T st = 5 := by rw [sz_L hTb (by omega)]; exact h1
    have h3 := h_24
    rw [h2] at h3
    unfold P_word2
    rw [if_neg (show ¬ wdB T st 1 = true by rw [w1]; decide), if_pos w2]
    exact h3⟩)

set_option maxRecDepth 20000 in
theorem c_stmt3 {w : Wd} {sh : Shp} {g : Mem} {R tx : Nat} (hR : RdS sh.1 R tx) {T : Tx} {d : Nat → Int} {s : Nat → Bool} {st : Nat} (htx : tx < R ∨ R + 76 ≤ tx) (H0 : CRd g R tx T d s st) (w1 : wdB T st 1 = false) (w2 : wdB T st 2 = false) (w3 : wdB T st 3 = true) : CT w mX8_readStatement [.ref (R)] sh g (iQ sh (CP g R tx T (P_word2 T d s st))) := by
  have F0 : FrR g g R := FrR.rf
  have hX0 := H0.1
  have hk0 := H0.2.1
  have hq0 := H0.2.2.1
  have hR0 := H0.2.2.2.1
  have hP0 := H0.2.2.2.2.1
  have hT7 := hX0.1
  have hTb := hX0.2.2.2
  have hbb := hP0.1
  have hr0 := hk0.2.2.1
  have hb2 := hbb.2.2.1
  have hb3 := hbb.2.2.2.1
  have hb4 := hbb.2.2.2.2.1
  have hb5 := hbb.2.2.2.2.2.1
  refine j_entry (by decide) rfl (Nat.le_of_ble_eq_true rfl) (fun h => by cases h) rfl ?_
  show J w mX8_readStatement 0 [(0, .ref (R))] [] sh g 0 0 _
  refine j_aload_n 1 0 dX8_readStatement_0 rfl rfl ?_
  refine j_ldcS 3 (i := 1) dX8_readStatement_1 rfl (tx := "line") (by decide) ?_
  refine j_callV 6 (As := [.ref (w.2.1 (100 + 1))]) (kc2 := 0) (ks2 := 0) dX8_readStatement_3 rfl mvX8_isWord lk_X8_63 hR.rd rfl ⟨Nat.le_of_ble_eq_true rfl, rfl⟩ rfl rfl (Nat.le_of_ble_eq_true rfl) ⟨Nat.le_of_ble_eq_true rfl, Nat.le_of_ble_eq_true rfl⟩ ⟨Nat.le_of_ble_eq_true rfl, Nat.le_of_ble_eq_true rfl⟩ (c_isWord hR hX0 hk0 hq0 (by decide)) x_d (k_d1 ?_)
  refine j_top (y := 0) (bo0 w1) ?_
  refine j_if_eq 9 14 dX8_readStatement_6 rfl rfl (r32 (by decide) (by decide)) (fun c_6 => ?_) (fun c_6 => absurd c_6 (by decide))
  refine j_aload_n 15 0 dX8_readStatement_14 rfl rfl ?_
  refine j_ldcS 17 (i := 2) dX8_readStatement_15 rfl (tx := "group") (by decide) ?_
  refine j_callV 20 (As := [.ref (w.2.1 (100 + 2))]) (kc2 := 0) (ks2 := 0) dX8_readStatement_17 rfl mvX8_isWord lk_X8_63 hR.rd rfl ⟨Nat.le_of_ble_eq_true rfl, rfl⟩ rfl rfl (Nat.le_of_ble_eq_true rfl) ⟨Nat.le_of_ble_eq_true rfl, Nat.le_of_ble_eq_true rfl⟩ ⟨Nat.le_of_ble_eq_true rfl, Nat.le_of_ble_eq_true rfl⟩ (c_isWord hR hX0 hk0 hq0 (by decide)) x_d (k_d1 ?_)
  refine j_top (y := 0) (bo0 w2) ?_
  refine j_if_eq 23 28 dX8_readStatement_20 rfl rfl (r32 (by decide) (by decide)) (fun c_20 => ?_) (fun c_20 => absurd c_20 (by decide))
  refine j_aload_n 29 0 dX8_readStatement_28 rfl rfl ?_
  refine j_ldcS 31 (i := 3) dX8_readStatement_29 rfl (tx := "route") (by decide) ?_
  refine j_callV 34 (As := [.ref (w.2.1 (100 + 3))]) (kc2 := 0) (ks2 := 0) dX8_readStatement_31 rfl mvX8_isWord lk_X8_63 hR.rd rfl ⟨Nat.le_of_ble_eq_true rfl, rfl⟩ rfl rfl (Nat.le_of_ble_eq_true rfl) ⟨Nat.le_of_ble_eq_true rfl, Nat.le_of_ble_eq_true rfl⟩ ⟨Nat.le_of_ble_eq_true rfl, Nat.le_of_ble_eq_true rfl⟩ (c_isWord hR hX0 hk0 hq0 (by decide)) x_d (k_d1 ?_)
  refine j_top (y := 1) (bo1 w3) ?_
  refine j_if_eq 37 42 dX8_readStatement_34 rfl rfl (r32 (by decide) (by decide)) (fun c_34 => absurd c_34 (by decide)) (fun c_34 => ?_)
  refine j_aload_n 38 0 dX8_readStatement_37 rfl rfl ?_
  refine j_callV 41 (As := []) (kc2 := 0) (ks2 := 0) dX8_readStatement_38 rfl mvX8_readRoute lk_X8_94 hR.rd rfl ⟨Nat.le_of_ble_eq_true rfl, rfl⟩ rfl rfl (Nat.le_of_ble_eq_true rfl) ⟨Nat.le_of_ble_eq_true rfl, Nat.le_of_ble_eq_true rfl⟩ ⟨Nat.le_of_ble_eq_true rfl, Nat.le_of_ble_eq_true rfl⟩ (c_readRoute hR htx H0) x_i (k_i fun z_38 g_38 h_38 => ?_)
  exact j_zret dX8_readStatement_41 rfl (CP.z h_38) (⟨_, rfl, rfl, by
    have h1 : ln T st = 5 := (wd_iff.mp w3).1
    have h2 : szT T st = 5 := by rw [sz_L hTb (by omega)]; exact h1
    have h3 := h_38
    rw [h2] at h3
    unfold P_word2
    rw [if_neg (show ¬ wdB T st 1 = true by rw [w1]; decide), if_neg (show ¬ wdB T st 2 = true by rw [w2]; decide), if_pos w3]
    exact h3⟩)

set_option maxRecDepth 20000 in
theorem c_stmt4 {w : Wd} {sh : Shp} {g : Mem} {R tx : Nat} (hR : RdS sh.1 R tx) {T : Tx} {d : Nat → Int} {s : Nat → Bool} {st : Nat} (htx : tx < R ∨ R + 76 ≤ tx) (H0 : CRd g R tx T d s st) (w1 : wdB T st 1 = false) (w2 : wdB T st 2 = false) (w3 : wdB T st 3 = false) (w4 : wdB T st 4 = true) : CT w mX8_readStatement [.ref (R)] sh g (iQ sh (CP g R tx T (P_word2 T d s st))) := by
  have F0 : FrR g g R := FrR.rf
  have hX0 := H0.1
  have hk0 := H0.2.1
  have hq0 := H0.2.2.1
  have hR0 := H0.2.2.2.1
  have hP0 := H0.2.2.2.2.1
  have hT7 := hX0.1
  have hTb := hX0.2.2.2
  have hbb := hP0.1
  have hr0 := hk0.2.2.1
  have hb2 := hbb.2.2.1
  have hb3 := hbb.2.2.2.1
  have hb4 := hbb.2.2.2.2.1
  have hb5 := hbb.2.2.2.2.2.1
  refine j_entry (by decide) rfl (Nat.le_of_ble_eq_true rfl) (fun h => by cases h) rfl ?_
  show J w mX8_readStatement 0 [(0, .ref (R))] [] sh g 0 0 _
  refine j_aload_n 1 0 dX8_readStatement_0 rfl rfl ?_
  refine j_ldcS 3 (i := 1) dX8_readStatement_1 rfl (tx := "line") (by decide) ?_
  refine j_callV 6 (As := [.ref (w.2.1 (100 + 1))]) (kc2 := 0) (ks2 := 0) dX8_readStatement_3 rfl mvX8_isWord lk_X8_63 hR.rd rfl ⟨Nat.le_of_ble_eq_true rfl, rfl⟩ rfl rfl (Nat.le_of_ble_eq_true rfl) ⟨Nat.le_of_ble_eq_true rfl, Nat.le_of_ble_eq_true rfl⟩ ⟨Nat.le_of_ble_eq_true rfl, Nat.le_of_ble_eq_true rfl⟩ (c_isWord hR hX0 hk0 hq0 (by decide)) x_d (k_d1 ?_)
  refine j_top (y := 0) (bo0 w1) ?_
  refine j_if_eq 9 14 dX8_readStatement_6 rfl rfl (r32 (by decide) (by decide)) (fun c_6 => ?_) (fun c_6 => absurd c_6 (by decide))
  refine j_aload_n 15 0 dX8_readStatement_14 rfl rfl ?_
  refine j_ldcS 17 (i := 2) dX8_readStatement_15 rfl (tx := "group") (by decide) ?_
  refine j_callV 20 (As := [.ref (w.2.1 (100 + 2))]) (kc2 := 0) (ks2 := 0) dX8_readStatement_17 rfl mvX8_isWord lk_X8_63 hR.rd rfl ⟨Nat.le_of_ble_eq_true rfl, rfl⟩ rfl rfl (Nat.le_of_ble_eq_true rfl) ⟨Nat.le_of_ble_eq_true rfl, Nat.le_of_ble_eq_true rfl⟩ ⟨Nat.le_of_ble_eq_true rfl, Nat.le_of_ble_eq_true rfl⟩ (c_isWord hR hX0 hk0 hq0 (by decide)) x_d (k_d1 ?_)
  refine j_top (y := 0) (bo0 w2) ?_
  refine j_if_eq 23 28 dX8_readStatement_20 rfl rfl (r32 (by decide) (by decide)) (fun c_20 => ?_) (fun c_20 => absurd c_20 (by decide))
  refine j_aload_n 29 0 dX8_readStatement_28 rfl rfl ?_
  refine j_ldcS 31 (i := 3) dX8_readStatement_29 rfl (tx := "route") (by decide) ?_
  refine j_callV 34 (As := [.ref (w.2.1 (100 + 3))]) (kc2 := 0) (ks2 := 0) dX8_readStatement_31 rfl mvX8_isWord lk_X8_63 hR.rd rfl ⟨Nat.le_of_ble_eq_true rfl, rfl⟩ rfl rfl (Nat.le_of_ble_eq_true rfl) ⟨Nat.le_of_ble_eq_true rfl, Nat.le_of_ble_eq_true rfl⟩ ⟨Nat.le_of_ble_eq_true rfl, Nat.le_of_ble_eq_true rfl⟩ (c_isWord hR hX0 hk0 hq0 (by decide)) x_d (k_d1 ?_)
  refine j_top (y := 0) (bo0 w3) ?_
  refine j_if_eq 37 42 dX8_readStatement_34 rfl rfl (r32 (by decide) (by decide)) (fun c_34 => ?_) (fun c_34 => absurd c_34 (by decide))
  refine j_aload_n 43 0 dX8_readStatement_42 rfl rfl ?_
  refine j_ldcS 45 (i := 4) dX8_readStatement_43 rfl (tx := "call") (by decide) ?_
  refine j_callV 48 (As := [.ref (w.2.1 (100 + 4))]) (kc2 := 0) (ks2 := 0) dX8_readStatement_45 rfl mvX8_isWord lk_X8_63 hR.rd rfl ⟨Nat.le_of_ble_eq_true rfl, rfl⟩ rfl rfl (Nat.le_of_ble_eq_true rfl) ⟨Nat.le_of_ble_eq_true rfl, Nat.le_of_ble_eq_true rfl⟩ ⟨Nat.le_of_ble_eq_true rfl, Nat.le_of_ble_eq_true rfl⟩ (c_isWord hR hX0 hk0 hq0 (by decide)) x_d (k_d1 ?_)
  refine j_top (y := 1) (bo1 w4) ?_
  refine j_if_eq 51 56 dX8_readStatement_48 rfl rfl (r32 (by decide) (by decide)) (fun c_48 => absurd c_48 (by decide)) (fun c_48 => ?_)
  refine j_aload_n 52 0 dX8_readStatement_51 rfl rfl ?_
  refine j_callV 55 (As := []) (kc2 := 0) (ks2 := 0) dX8_readStatement_52 rfl mvX8_readCall lk_X8_99 hR.rd rfl ⟨Nat.le_of_ble_eq_true rfl, rfl⟩ rfl rfl (Nat.le_of_ble_eq_true rfl) ⟨Nat.le_of_ble_eq_true rfl, Nat.le_of_ble_eq_true rfl⟩ ⟨Nat.le_of_ble_eq_true rfl, Nat.le_of_ble_eq_true rfl⟩ (c_readCall hR htx H0) x_i (k_i fun z_52 g_52 h_52 => ?_)
  exact j_zret dX8_readStatement_55 rfl (CP.z h_52) (⟨_, rfl, rfl, by
    have h1 : ln T st = 4 := (wd_iff.mp w4).1
    have h2 : szT T st = 4 := by rw [sz_L hTb (by omega)]; exact h1
    have h3 := h_52
    rw [h2] at h3
    unfold P_word2
    rw [if_neg (show ¬ wdB T st 1 = true by rw [w1]; decide), if_neg (show ¬ wdB T st 2 = true by rw [w2]; decide), if_neg (show ¬ wdB T st 3 = true by rw [w3]; decide), if_pos w4]
    exact h3⟩)

set_option maxRecDepth 20000 in
theorem c_stmt5 {w : Wd} {sh : Shp} {g : Mem} {R tx : Nat} (hR : RdS sh.1 R tx) {T : Tx} {d : Nat → Int} {s : Nat → Bool} {st : Nat} (htx : tx < R ∨ R + 76 ≤ tx) (H0 : CRd g R tx T d s st) (w1 : wdB T st 1 = false) (w2 : wdB T st 2 = false) (w3 : wdB T st 3 = false) (w4 : wdB T st 4 = false) : CT w mX8_readStatement [.ref (R)] sh g (iQ sh (CP g R tx T (P_word2 T d s st))) := by
  have F0 : FrR g g R := FrR.rf
  have hX0 := H0.1
  have hk0 := H0.2.1
  have hq0 := H0.2.2.1
  have hR0 := H0.2.2.2.1
  have hP0 := H0.2.2.2.2.1
  have hT7 := hX0.1
  have hTb := hX0.2.2.2
  have hbb := hP0.1
  have hr0 := hk0.2.2.1
  have hb2 := hbb.2.2.1
  have hb3 := hbb.2.2.2.1
  have hb4 := hbb.2.2.2.2.1
  have hb5 := hbb.2.2.2.2.2.1
  refine j_entry (by decide) rfl (Nat.le_of_ble_eq_true rfl) (fun h => by cases h) rfl ?_
  show J w mX8_readStatement 0 [(0, .ref (R))] [] sh g 0 0 _
  refine j_aload_n 1 0 dX8_readStatement_0 rfl rfl ?_
  refine j_ldcS 3 (i := 1) dX8_readStatement_1 rfl (tx := "line") (by decide) ?_
  refine j_callV 6 (As := [.ref (w.2.1 (100 + 1))]) (kc2 := 0) (ks2 := 0) dX8_readStatement_3 rfl mvX8_isWord lk_X8_63 hR.rd rfl ⟨Nat.le_of_ble_eq_true rfl, rfl⟩ rfl rfl (Nat.le_of_ble_eq_true rfl) ⟨Nat.le_of_ble_eq_true rfl, Nat.le_of_ble_eq_true rfl⟩ ⟨Nat.le_of_ble_eq_true rfl, Nat.le_of_ble_eq_true rfl⟩ (c_isWord hR hX0 hk0 hq0 (by decide)) x_d (k_d1 ?_)
  refine j_top (y := 0) (bo0 w1) ?_
  refine j_if_eq 9 14 dX8_readStatement_6 rfl rfl (r32 (by decide) (by decide)) (fun c_6 => ?_) (fun c_6 => absurd c_6 (by decide))
  refine j_aload_n 15 0 dX8_readStatement_14 rfl rfl ?_
  refine j_ldcS 17 (i := 2) dX8_readStatement_15 rfl (tx := "group") (by decide) ?_
  refine j_callV 20 (As := [.ref (w.2.1 (100 + 2))]) (kc2 := 0) (ks2 := 0) dX8_readStatement_17 rfl mvX8_isWord lk_X8_63 hR.rd rfl ⟨Nat.le_of_ble_eq_true rfl, rfl⟩ rfl rfl (Nat.le_of_ble_eq_true rfl) ⟨Nat.le_of_ble_eq_true rfl, Nat.le_of_ble_eq_true rfl⟩ ⟨Nat.le_of_ble_eq_true rfl, Nat.le_of_ble_eq_true rfl⟩ (c_isWord hR hX0 hk0 hq0 (by decide)) x_d (k_d1 ?_)
  refine j_top (y := 0) (bo0 w2) ?_
  refine j_if_eq 23 28 dX8_readStatement_20 rfl rfl (r32 (by decide) (by decide)) (fun c_20 => ?_) (fun c_20 => absurd c_20 (by decide))
  refine j_aload_n 29 0 dX8_readStatement_28 rfl rfl ?_
  refine j_ldcS 31 (i := 3) dX8_readStatement_29 rfl (tx := "route") (by decide) ?_
  refine j_callV 34 (As := [.ref (w.2.1 (100 + 3))]) (kc2 := 0) (ks2 := 0) dX8_readStatement_31 rfl mvX8_isWord lk_X8_63 hR.rd rfl ⟨Nat.le_of_ble_eq_true rfl, rfl⟩ rfl rfl (Nat.le_of_ble_eq_true rfl) ⟨Nat.le_of_ble_eq_true rfl, Nat.le_of_ble_eq_true rfl⟩ ⟨Nat.le_of_ble_eq_true rfl, Nat.le_of_ble_eq_true rfl⟩ (c_isWord hR hX0 hk0 hq0 (by decide)) x_d (k_d1 ?_)
  refine j_top (y := 0) (bo0 w3) ?_
  refine j_if_eq 37 42 dX8_readStatement_34 rfl rfl (r32 (by decide) (by decide)) (fun c_34 => ?_) (fun c_34 => absurd c_34 (by decide))
  refine j_aload_n 43 0 dX8_readStatement_42 rfl rfl ?_
  refine j_ldcS 45 (i := 4) dX8_readStatement_43 rfl (tx := "call") (by decide) ?_
  refine j_callV 48 (As := [.ref (w.2.1 (100 + 4))]) (kc2 := 0) (ks2 := 0) dX8_readStatement_45 rfl mvX8_isWord lk_X8_63 hR.rd rfl ⟨Nat.le_of_ble_eq_true rfl, rfl⟩ rfl rfl (Nat.le_of_ble_eq_true rfl) ⟨Nat.le_of_ble_eq_true rfl, Nat.le_of_ble_eq_true rfl⟩ ⟨Nat.le_of_ble_eq_true rfl, Nat.le_of_ble_eq_true rfl⟩ (c_isWord hR hX0 hk0 hq0 (by decide)) x_d (k_d1 ?_)
  refine j_top (y := 0) (bo0 w4) ?_
  refine j_if_eq 51 56 dX8_readStatement_48 rfl rfl (r32 (by decide) (by decide)) (fun c_48 => ?_) (fun c_48 => absurd c_48 (by decide))
  refine j_aload_n 57 0 dX8_readStatement_56 rfl rfl ?_
  refine j_callV 60 (As := []) (kc2 := 0) (ks2 := 0) dX8_readStatement_57 rfl mvX8_readRule lk_X8_102 hR.rd rfl ⟨Nat.le_of_ble_eq_true rfl, rfl⟩ rfl rfl (Nat.le_of_ble_eq_true rfl) ⟨Nat.le_of_ble_eq_true rfl, Nat.le_of_ble_eq_true rfl⟩ ⟨Nat.le_of_ble_eq_true rfl, Nat.le_of_ble_eq_true rfl⟩ (c_readRule hR htx H0) x_i (k_i fun z_57 g_57 h_57 => ?_)
  exact j_zret dX8_readStatement_60 rfl (CP.z h_57) (⟨_, rfl, rfl, by
    unfold P_word2
    rw [if_neg (show ¬ wdB T st 1 = true by rw [w1]; decide), if_neg (show ¬ wdB T st 2 = true by rw [w2]; decide), if_neg (show ¬ wdB T st 3 = true by rw [w3]; decide), if_neg (show ¬ wdB T st 4 = true by rw [w4]; decide)]
    exact h_57⟩)

theorem c_readStatement {w : Wd} {sh : Shp} {g : Mem} {R tx : Nat} (hR : RdS sh.1 R tx) {T : Tx} {d : Nat → Int} {s : Nat → Bool} {st : Nat} (htx : tx < R ∨ R + 76 ≤ tx) (H0 : CRd g R tx T d s st) : CT w mX8_readStatement [.ref (R)] sh g (iQ sh (CP g R tx T (P_word2 T d s st))) := by
  cases w1 : wdB T st 1 with
  | true => exact c_stmt1 hR htx H0 w1
  | false => cases w2 : wdB T st 2 with
    | true => exact c_stmt2 hR htx H0 w1 w2
    | false => cases w3 : wdB T st 3 with
      | true => exact c_stmt3 hR htx H0 w1 w2 w3
      | false => cases w4 : wdB T st 4 with
        | true => exact c_stmt4 hR htx H0 w1 w2 w3 w4
        | false => exact c_stmt5 hR htx H0 w1 w2 w3 w4
