/-- the rows base .. of things are the rows sb .. of things, k of them, in the cells lo ..< hi -/
def cpA (g : Mem) (base sb lo hi k : Nat) : Mem := fun x j => if base ≤ x ∧ x < base + k ∧ lo ≤ j ∧ j < hi then g (sb + (x - base)) j else g x j
theorem cpA_0 {g : Mem} {base sb lo hi : Nat} : cpA g base sb lo hi 0 = g := by
  funext x j
  exact if_neg (by omega)
theorem cpA_n {g : Mem} {base sb lo hi k x : Nat} (h : x < base ∨ base + k ≤ x) : cpA g base sb lo hi k x = g x := funext fun j => if_neg (by omega)
theorem cpA_i {g : Mem} {base sb lo hi k i j : Nat} (h : i < k) (hj : lo ≤ j ∧ j < hi) : cpA g base sb lo hi k (base + i) j = g (sb + i) j := by
  unfold cpA
  rw [if_pos (by omega), show base + i - base = i by omega]
theorem cpA_o {g : Mem} {base sb lo hi k x j : Nat} (hj : ¬ (lo ≤ j ∧ j < hi)) : cpA g base sb lo hi k x j = g x j := if_neg (by omega)
theorem cpA_s {g : Mem} {base sb lo hi k : Nat} (hd : sb + k < base ∨ base + k ≤ sb + k) : cpR (cpA g base sb lo hi k) (base + k) (sb + k) lo hi = cpA g base sb lo hi (k + 1) := by
  funext x j
  show (if x = base + k ∧ lo ≤ j ∧ j < hi then cpA g base sb lo hi k (sb + k) j else cpA g base sb lo hi k x j) = if base ≤ x ∧ x < base + (k + 1) ∧ lo ≤ j ∧ j < hi then g (sb + (x - base)) j else g x j
  by_cases q : x = base + k ∧ lo ≤ j ∧ j < hi
  · obtain ⟨rfl, q2⟩ := q
    rw [if_pos ⟨rfl, q2⟩, if_pos (by omega), cpA_n (by omega), show base + k - base = k by omega]
  · rw [if_neg q]
    unfold cpA
    by_cases q2 : base ≤ x ∧ x < base + k ∧ lo ≤ j ∧ j < hi
    · rw [if_pos q2, if_pos (by omega)]
    · rw [if_neg q2, if_neg (by omega)]
/-- k Routes at e are those at f -/
def CpRts (g ga : Mem) (e f k : Nat) : Prop := (∀ x, x < e + 9 ∨ e + 9 + 2 * k ≤ x → ga x = g x) ∧ ∀ r : Nat, r < k → ga (e + 9 + 2 * r) 0 = g (e + 9 + 2 * r) 0 ∧ ga (e + 9 + 2 * r) 1 = g (f + 9 + 2 * r) 1 ∧ ga (e + 9 + 2 * r) 2 = g (f + 9 + 2 * r) 2 ∧ ga (e + 9 + 2 * r) 3 = (if g (f + 9 + 2 * r) 3 < 0 then 0 else if g (f + 9 + 2 * r) 3 < 3 then g (f + 9 + 2 * r) 3 else 3) ∧ ∀ j : Nat, (j : Int) < (if g (f + 9 + 2 * r) 3 < 0 then 0 else if g (f + 9 + 2 * r) 3 < 3 then g (f + 9 + 2 * r) 3 else 3) → ga (e + 10 + 2 * r) j = g (f + 10 + 2 * r) j
theorem CpRts.next {g ga gb : Mem} {e f k : Nat} (h : CpRts g ga e f k) (hk : k < 8) (hd : e + 75 ≤ f ∨ f + 75 ≤ e) (h2 : CpRt ga gb (e + 9 + 2 * k) (e + 10 + 2 * k) (f + 9 + 2 * k) (f + 10 + 2 * k) (if ga (f + 9 + 2 * k) 3 < 0 then 0 else if ga (f + 9 + 2 * k) 3 < 3 then ga (f + 9 + 2 * k) 3 else 3)) : CpRts g gb e f (k + 1) := by
  obtain ⟨a1, a2⟩ := h
  obtain ⟨b1, b2, b3, b4, b5, b6⟩ := h2
  refine ⟨fun x hx => ?_, fun r hr => ?_⟩
  · rw [b1 x (by omega) (by omega), a1 x (by omega)]
  · by_cases q : r = k
    · subst q
      rw [a1 (f + 9 + 2 * r) (by omega)] at b3 b4 b5 b6
      rw [a1 (f + 10 + 2 * r) (by omega)] at b6
      rw [a1 (e + 9 + 2 * r) (by omega)] at b2
      exact ⟨b2, b3, b4, b5, b6⟩
    · rw [b1 (e + 9 + 2 * r) (by omega) (by omega), b1 (e + 10 + 2 * r) (by omega) (by omega)]
      exact a2 r (by omega)

/-- the Exchange at e becomes the one at f -/
def CpX (g ga : Mem) (e f : Nat) : Prop := ∃ g1 g2 g3 gb g5 g6 : Mem, g1 = cpR g e f 0 13 ∧ g2 = cpR g1 (e + 1) (f + 1) 0 12 ∧ g3 = cpA g2 (e + 3) (f + 3) 1 8 5 ∧ CpRts g3 gb e f 8 ∧ g5 = cpA gb (e + 26) (f + 26) 1 4 4 ∧ g6 = cpA g5 (e + 31) (f + 31) 1 3 3 ∧ ga = cpA g6 (e + 35) (f + 35) 1 13 40

set_option maxRecDepth 20000 in
theorem c_copyX {w : Wd} {sh : Shp} {g : Mem} {e f : Nat} (hE : ExS sh.1 e) (hF : ExS sh.1 f) (hd : e + 75 ≤ f ∨ f + 75 ≤ e) : CT w mX1_copyFrom [.ref (e), .ref (f)] sh g (vQ sh (fun g2 => CpX g g2 e f)) := by
  have hab : e ≠ f := by omega
  refine j_entry (by decide) rfl (Nat.le_of_ble_eq_true rfl) (fun h => by cases h) rfl ?_
  show J w mX1_copyFrom 0 [(0, .ref (e)), (1, .ref (f))] [] sh g 0 0 _
  refine j_mem (cpR_0 (a := e) (b := f) (lo := 0)).symm ?_
  refine j_aload_n 1 0 dX1_copyFrom_0 rfl rfl ?_
  refine j_aload_n 2 1 dX1_copyFrom_1 rfl rfl ?_
  refine j_geti 5 dX1_copyFrom_2 rfl fl_X1_55 hF.ex rfl rfl (fun r_2 => ?_)
  refine j_top (y := g f 0) (cpR_b hab) ?_
  refine j_puti 8 dX1_copyFrom_5 rfl fl_X1_55 hE.ex rfl rfl rfl (by have h := r_2; rw [cpR_b hab] at h; exact h) ?_
  refine j_mn (fun g_5 hg_5 => ?_)
  refine j_mem (hg_5.trans (cpR_s (by omega))) ?_
  refine j_aload_n 9 0 dX1_copyFrom_8 rfl rfl ?_
  refine j_aload_n 10 1 dX1_copyFrom_9 rfl rfl ?_
  refine j_geti 13 dX1_copyFrom_10 rfl fl_X1_59 hF.ex rfl rfl (fun r_10 => ?_)
  refine j_top (y := g f 1) (cpR_b hab) ?_
  refine j_puti 16 dX1_copyFrom_13 rfl fl_X1_59 hE.ex rfl rfl rfl (by have h := r_10; rw [cpR_b hab] at h; exact h) ?_
  refine j_mn (fun g_13 hg_13 => ?_)
  refine j_mem (hg_13.trans (cpR_s (by omega))) ?_
  refine j_aload_n 17 0 dX1_copyFrom_16 rfl rfl ?_
  refine j_aload_n 18 1 dX1_copyFrom_17 rfl rfl ?_
  refine j_geti 21 dX1_copyFrom_18 rfl fl_X1_62 hF.ex rfl rfl (fun r_18 => ?_)
  refine j_top (y := g f 2) (cpR_b hab) ?_
  refine j_puti 24 dX1_copyFrom_21 rfl fl_X1_62 hE.ex rfl rfl rfl (by have h := r_18; rw [cpR_b hab] at h; exact h) ?_
  refine j_mn (fun g_21 hg_21 => ?_)
  refine j_mem (hg_21.trans (cpR_s (by omega))) ?_
  refine j_aload_n 25 0 dX1_copyFrom_24 rfl rfl ?_
  refine j_aload_n 26 1 dX1_copyFrom_25 rfl rfl ?_
  refine j_geti 29 dX1_copyFrom_26 rfl fl_X1_65 hF.ex rfl rfl (fun r_26 => ?_)
  refine j_top (y := g f 3) (cpR_b hab) ?_
  refine j_puti 32 dX1_copyFrom_29 rfl fl_X1_65 hE.ex rfl rfl rfl (by have h := r_26; rw [cpR_b hab] at h; exact h) ?_
  refine j_mn (fun g_29 hg_29 => ?_)
  refine j_mem (hg_29.trans (cpR_s (by omega))) ?_
  refine j_aload_n 33 0 dX1_copyFrom_32 rfl rfl ?_
  refine j_aload_n 34 1 dX1_copyFrom_33 rfl rfl ?_
  refine j_geti 37 dX1_copyFrom_34 rfl fl_X1_68 hF.ex rfl rfl (fun r_34 => ?_)
  refine j_top (y := g f 4) (cpR_b hab) ?_
  refine j_puti 40 dX1_copyFrom_37 rfl fl_X1_68 hE.ex rfl rfl rfl (by have h := r_34; rw [cpR_b hab] at h; exact h) ?_
  refine j_mn (fun g_37 hg_37 => ?_)
  refine j_mem (hg_37.trans (cpR_s (by omega))) ?_
  refine j_aload_n 41 0 dX1_copyFrom_40 rfl rfl ?_
  refine j_aload_n 42 1 dX1_copyFrom_41 rfl rfl ?_
  refine j_geti 45 dX1_copyFrom_42 rfl fl_X1_71 hF.ex rfl rfl (fun r_42 => ?_)
  refine j_top (y := g f 5) (cpR_b hab) ?_
  refine j_puti 48 dX1_copyFrom_45 rfl fl_X1_71 hE.ex rfl rfl rfl (by have h := r_42; rw [cpR_b hab] at h; exact h) ?_
  refine j_mn (fun g_45 hg_45 => ?_)
  refine j_mem (hg_45.trans (cpR_s (by omega))) ?_
  refine j_aload_n 49 0 dX1_copyFrom_48 rfl rfl ?_
  refine j_aload_n 50 1 dX1_copyFrom_49 rfl rfl ?_
  refine j_geti 53 dX1_copyFrom_50 rfl fl_X1_74 hF.ex rfl rfl (fun r_50 => ?_)
  refine j_top (y := g f 6) (cpR_b hab) ?_
  refine j_puti 56 dX1_copyFrom_53 rfl fl_X1_74 hE.ex rfl rfl rfl (by have h := r_50; rw [cpR_b hab] at h; exact h) ?_
  refine j_mn (fun g_53 hg_53 => ?_)
  refine j_mem (hg_53.trans (cpR_s (by omega))) ?_
  refine j_aload_n 57 0 dX1_copyFrom_56 rfl rfl ?_
  refine j_aload_n 58 1 dX1_copyFrom_57 rfl rfl ?_
  refine j_geti 61 dX1_copyFrom_58 rfl fl_X1_77 hF.ex rfl rfl (fun r_58 => ?_)
  refine j_top (y := g f 7) (cpR_b hab) ?_
  refine j_puti 64 dX1_copyFrom_61 rfl fl_X1_77 hE.ex rfl rfl rfl (by have h := r_58; rw [cpR_b hab] at h; exact h) ?_
  refine j_mn (fun g_61 hg_61 => ?_)
  refine j_mem (hg_61.trans (cpR_s (by omega))) ?_
  refine j_aload_n 65 0 dX1_copyFrom_64 rfl rfl ?_
  refine j_aload_n 66 1 dX1_copyFrom_65 rfl rfl ?_
  refine j_geti 69 dX1_copyFrom_66 rfl fl_X1_80 hF.ex rfl rfl (fun r_66 => ?_)
  refine j_top (y := g f 8) (cpR_b hab) ?_
  refine j_puti 72 dX1_copyFrom_69 rfl fl_X1_80 hE.ex rfl rfl rfl (by have h := r_66; rw [cpR_b hab] at h; exact h) ?_
  refine j_mn (fun g_69 hg_69 => ?_)
  refine j_mem (hg_69.trans (cpR_s (by omega))) ?_
  refine j_aload_n 73 0 dX1_copyFrom_72 rfl rfl ?_
  refine j_aload_n 74 1 dX1_copyFrom_73 rfl rfl ?_
  refine j_geti 77 dX1_copyFrom_74 rfl fl_X1_83 hF.ex rfl rfl (fun r_74 => ?_)
  refine j_top (y := g f 9) (cpR_b hab) ?_
  refine j_puti 80 dX1_copyFrom_77 rfl fl_X1_83 hE.ex rfl rfl rfl (by have h := r_74; rw [cpR_b hab] at h; exact h) ?_
  refine j_mn (fun g_77 hg_77 => ?_)
  refine j_mem (hg_77.trans (cpR_s (by omega))) ?_
  refine j_aload_n 81 0 dX1_copyFrom_80 rfl rfl ?_
  refine j_aload_n 82 1 dX1_copyFrom_81 rfl rfl ?_
  refine j_geti 85 dX1_copyFrom_82 rfl fl_X1_86 hF.ex rfl rfl (fun r_82 => ?_)
  refine j_top (y := g f 10) (cpR_b hab) ?_
  refine j_puti 88 dX1_copyFrom_85 rfl fl_X1_86 hE.ex rfl rfl rfl (by have h := r_82; rw [cpR_b hab] at h; exact h) ?_
  refine j_mn (fun g_85 hg_85 => ?_)
  refine j_mem (hg_85.trans (cpR_s (by omega))) ?_
  refine j_aload_n 89 0 dX1_copyFrom_88 rfl rfl ?_
  refine j_aload_n 90 1 dX1_copyFrom_89 rfl rfl ?_
  refine j_geti 93 dX1_copyFrom_90 rfl fl_X1_89 hF.ex rfl rfl (fun r_90 => ?_)
  refine j_top (y := g f 11) (cpR_b hab) ?_
  refine j_puti 96 dX1_copyFrom_93 rfl fl_X1_89 hE.ex rfl rfl rfl (by have h := r_90; rw [cpR_b hab] at h; exact h) ?_
  refine j_mn (fun g_93 hg_93 => ?_)
  refine j_mem (hg_93.trans (cpR_s (by omega))) ?_
  refine j_aload_n 97 0 dX1_copyFrom_96 rfl rfl ?_
  refine j_aload_n 98 1 dX1_copyFrom_97 rfl rfl ?_
  refine j_getz 101 dX1_copyFrom_98 rfl fl_X1_92 hF.ex rfl rfl (fun r_98 => ?_)
  refine j_top (y := g f 12) (cpR_b hab) ?_
  refine j_putz 104 dX1_copyFrom_101 rfl fl_X1_92 hE.ex rfl rfl rfl (by have h := r_98; rw [cpR_b hab] at h; omega) ?_
  refine j_mn (fun g_101 hg_101 => ?_)
  refine j_mem (hg_101.trans (cpR_s (by omega))) ?_
  refine j_mn (fun g1 hg1 => ?_)
  refine j_mem (cpR_0 (a := e + 1) (b := f + 1) (lo := 0)).symm ?_
  refine j_iconst 105 dX1_copyFrom_104 rfl ?_
  refine j_istore_n 106 (L2 := [(2, .int (i32 (0))), (0, .ref (e)), (1, .ref (f))]) dX1_copyFrom_105 rfl rfl (Nat.le_of_ble_eq_true rfl) rfl ?_
  suffices lp_106 : ∀ (n_106 : Nat) (k : Nat), 12 - k < n_106 → k ≤ 12 → J w mX1_copyFrom 106 [(2, .int (i32 ((k : Int)))), (0, .ref (e)), (1, .ref (f))] [] sh (cpR g1 (e + 1) (f + 1) 0 k) 0 0 (vQ sh (fun g2 => CpX g g2 e f)) by
    exact lp_106 _ 0 (Nat.lt_succ_self _) (by omega)
  intro n_106
  induction n_106 with
  | zero => intro k h_; exact absurd h_ (Nat.not_lt_zero _)
  | succ n_106 ih_106 =>
    intro k hn_106 hk
    refine j_iload_n 107 0 dX1_copyFrom_106 rfl rfl ?_
    refine j_aload_n 108 1 dX1_copyFrom_107 rfl rfl ?_
    refine j_getr 111 dX1_copyFrom_108 rfl fl_X1_9 hE.ex rfl (fun _ _ => rfl) rfl ?_
    refine j_alen 112 dX1_copyFrom_111 rfl hE.num (Nat.le_of_ble_eq_true rfl) rfl ?_
    refine j_top (y := 12) rfl ?_
    refine j_icmp_ge 115 142 dX1_copyFrom_112 rfl rfl (r32 (by omega) (by omega)) (r32 (by decide) (by decide)) (fun c_112 => ?_) (fun c_112 => ?_)
    · have hk_142 : k = 12 := by omega
      subst hk_142
      refine j_mn (fun g2 hg2 => ?_)
      refine j_mem (cpA_0 (base := e + 3) (sb := f + 3) (lo := 1) (hi := 8)).symm ?_
      refine j_iconst 143 dX1_copyFrom_142 rfl ?_
      refine j_istore_n 144 (L2 := [(2, .int (i32 (0))), (0, .ref (e)), (1, .ref (f))]) dX1_copyFrom_143 rfl rfl (Nat.le_of_ble_eq_true rfl) rfl ?_
      suffices lp_144 : ∀ (n_144 : Nat) (k : Nat), 5 - k < n_144 → k ≤ 5 → J w mX1_copyFrom 144 [(2, .int (i32 ((k : Int)))), (0, .ref (e)), (1, .ref (f))] [] sh (cpA g2 (e + 3) (f + 3) 1 8 k) 0 0 (vQ sh (fun g2 => CpX g g2 e f)) by
        exact lp_144 _ 0 (Nat.lt_succ_self _) (by omega)
      intro n_144
      induction n_144 with
      | zero => intro k h_; exact absurd h_ (Nat.not_lt_zero _)
      | succ n_144 ih_144 =>
        intro k hn_144 hk
        refine j_iload_n 145 0 dX1_copyFrom_144 rfl rfl ?_
        refine j_aload_n 146 1 dX1_copyFrom_145 rfl rfl ?_
        refine j_getr 149 dX1_copyFrom_146 rfl fl_X1_17 hE.ex rfl (fun _ _ => rfl) rfl ?_
        refine j_alen 150 dX1_copyFrom_149 rfl hE.grs (Nat.le_of_ble_eq_true rfl) rfl ?_
        refine j_top (y := 5) rfl ?_
        refine j_icmp_ge 153 183 dX1_copyFrom_150 rfl rfl (r32 (by omega) (by omega)) (r32 (by decide) (by decide)) (fun c_150 => ?_) (fun c_150 => ?_)
        · have hk_183 : k = 5 := by omega
          subst hk_183
          refine j_mn (fun g3 hg3 => ?_)
          refine j_iconst 184 dX1_copyFrom_183 rfl ?_
          refine j_istore_n 185 (L2 := [(2, .int (i32 (0))), (0, .ref (e)), (1, .ref (f))]) dX1_copyFrom_184 rfl rfl (Nat.le_of_ble_eq_true rfl) rfl ?_
          suffices lp_185 : ∀ (n_185 : Nat) (k : Nat) (gb : Mem), 8 - k < n_185 → k ≤ 8 → CpRts g3 gb e f k → J w mX1_copyFrom 185 [(2, .int (i32 ((k : Int)))), (0, .ref (e)), (1, .ref (f))] [] sh gb 0 0 (vQ sh (fun g2 => CpX g g2 e f)) by
            exact lp_185 _ 0 g3 (Nat.lt_succ_self _) (by omega) ⟨fun _ _ => rfl, fun r hr => absurd hr (Nat.not_lt_zero r)⟩
          intro n_185
          induction n_185 with
          | zero => intro k gb h_; exact absurd h_ (Nat.not_lt_zero _)
          | succ n_185 ih_185 =>
            intro k gb hn_185 hk hC
            refine j_iload_n 186 0 dX1_copyFrom_185 rfl rfl ?_
            refine j_aload_n 187 1 dX1_copyFrom_186 rfl rfl ?_
            refine j_getr 190 dX1_copyFrom_187 rfl fl_X1_26 hE.ex rfl (fun _ _ => rfl) rfl ?_
            refine j_alen 191 dX1_copyFrom_190 rfl hE.rts (Nat.le_of_ble_eq_true rfl) rfl ?_
            refine j_top (y := 8) rfl ?_
            refine j_icmp_ge 194 224 dX1_copyFrom_191 rfl rfl (r32 (by omega) (by omega)) (r32 (by decide) (by decide)) (fun c_191 => ?_) (fun c_191 => ?_)
            · have hk_224 : k = 8 := by omega
              subst hk_224
              refine j_mem (cpA_0 (base := e + 26) (sb := f + 26) (lo := 1) (hi := 4)).symm ?_
              refine j_iconst 225 dX1_copyFrom_224 rfl ?_
              refine j_istore_n 226 (L2 := [(2, .int (i32 (0))), (0, .ref (e)), (1, .ref (f))]) dX1_copyFrom_225 rfl rfl (Nat.le_of_ble_eq_true rfl) rfl ?_
              suffices lp_226 : ∀ (n_226 : Nat) (k : Nat), 4 - k < n_226 → k ≤ 4 → J w mX1_copyFrom 226 [(2, .int (i32 ((k : Int)))), (0, .ref (e)), (1, .ref (f))] [] sh (cpA gb (e + 26) (f + 26) 1 4 k) 0 0 (vQ sh (fun g2 => CpX g g2 e f)) by
                exact lp_226 _ 0 (Nat.lt_succ_self _) (by omega)
              intro n_226
              induction n_226 with
              | zero => intro k h_; exact absurd h_ (Nat.not_lt_zero _)
              | succ n_226 ih_226 =>
                intro k hn_226 hk
                refine j_iload_n 227 0 dX1_copyFrom_226 rfl rfl ?_
                refine j_aload_n 228 1 dX1_copyFrom_227 rfl rfl ?_
                refine j_getr 231 dX1_copyFrom_228 rfl fl_X1_33 hE.ex rfl (fun _ _ => rfl) rfl ?_
                refine j_alen 232 dX1_copyFrom_231 rfl hE.rgs (Nat.le_of_ble_eq_true rfl) rfl ?_
                refine j_top (y := 4) rfl ?_
                refine j_icmp_ge 235 265 dX1_copyFrom_232 rfl rfl (r32 (by omega) (by omega)) (r32 (by decide) (by decide)) (fun c_232 => ?_) (fun c_232 => ?_)
                · have hk_265 : k = 4 := by omega
                  subst hk_265
                  refine j_mn (fun g5 hg5 => ?_)
                  refine j_mem (cpA_0 (base := e + 31) (sb := f + 31) (lo := 1) (hi := 3)).symm ?_
                  refine j_iconst 266 dX1_copyFrom_265 rfl ?_
                  refine j_istore_n 267 (L2 := [(2, .int (i32 (0))), (0, .ref (e)), (1, .ref (f))]) dX1_copyFrom_266 rfl rfl (Nat.le_of_ble_eq_true rfl) rfl ?_
                  suffices lp_267 : ∀ (n_267 : Nat) (k : Nat), 3 - k < n_267 → k ≤ 3 → J w mX1_copyFrom 267 [(2, .int (i32 ((k : Int)))), (0, .ref (e)), (1, .ref (f))] [] sh (cpA g5 (e + 31) (f + 31) 1 3 k) 0 0 (vQ sh (fun g2 => CpX g g2 e f)) by
                    exact lp_267 _ 0 (Nat.lt_succ_self _) (by omega)
                  intro n_267
                  induction n_267 with
                  | zero => intro k h_; exact absurd h_ (Nat.not_lt_zero _)
                  | succ n_267 ih_267 =>
                    intro k hn_267 hk
                    refine j_iload_n 268 0 dX1_copyFrom_267 rfl rfl ?_
                    refine j_aload_n 269 1 dX1_copyFrom_268 rfl rfl ?_
                    refine j_getr 272 dX1_copyFrom_269 rfl fl_X1_40 hE.ex rfl (fun _ _ => rfl) rfl ?_
                    refine j_alen 273 dX1_copyFrom_272 rfl hE.mks (Nat.le_of_ble_eq_true rfl) rfl ?_
                    refine j_top (y := 3) rfl ?_
                    refine j_icmp_ge 276 306 dX1_copyFrom_273 rfl rfl (r32 (by omega) (by omega)) (r32 (by decide) (by decide)) (fun c_273 => ?_) (fun c_273 => ?_)
                    · have hk_306 : k = 3 := by omega
                      subst hk_306
                      refine j_mn (fun g6 hg6 => ?_)
                      refine j_mem (cpA_0 (base := e + 35) (sb := f + 35) (lo := 1) (hi := 13)).symm ?_
                      refine j_iconst 307 dX1_copyFrom_306 rfl ?_
                      refine j_istore_n 308 (L2 := [(2, .int (i32 (0))), (0, .ref (e)), (1, .ref (f))]) dX1_copyFrom_307 rfl rfl (Nat.le_of_ble_eq_true rfl) rfl ?_
                      suffices lp_308 : ∀ (n_308 : Nat) (k : Nat), 40 - k < n_308 → k ≤ 40 → J w mX1_copyFrom 308 [(2, .int (i32 ((k : Int)))), (0, .ref (e)), (1, .ref (f))] [] sh (cpA g6 (e + 35) (f + 35) 1 13 k) 0 0 (vQ sh (fun g2 => CpX g g2 e f)) by
                        exact lp_308 _ 0 (Nat.lt_succ_self _) (by omega)
                      intro n_308
                      induction n_308 with
                      | zero => intro k h_; exact absurd h_ (Nat.not_lt_zero _)
                      | succ n_308 ih_308 =>
                        intro k hn_308 hk
                        refine j_iload_n 309 0 dX1_copyFrom_308 rfl rfl ?_
                        refine j_aload_n 310 1 dX1_copyFrom_309 rfl rfl ?_
                        refine j_getr 313 dX1_copyFrom_310 rfl fl_X1_47 hE.ex rfl (fun _ _ => rfl) rfl ?_
                        refine j_alen 314 dX1_copyFrom_313 rfl hE.cls (Nat.le_of_ble_eq_true rfl) rfl ?_
                        refine j_top (y := 40) rfl ?_
                        refine j_icmp_ge 317 347 dX1_copyFrom_314 rfl rfl (r32 (by omega) (by omega)) (r32 (by decide) (by decide)) (fun c_314 => ?_) (fun c_314 => ?_)
                        · exact j_vret dX1_copyFrom_347 rfl (⟨rfl, rfl, g1, g2, g3, gb, g5, g6, hg1, hg2, hg3, hC, hg5, hg6, by rw [show k = 40 by omega]⟩)
                        · refine j_iload_n 318 0 dX1_copyFrom_317 rfl rfl ?_
                          refine j_aload_n 319 2 dX1_copyFrom_318 rfl rfl ?_
                          refine j_getr 322 dX1_copyFrom_319 rfl fl_X1_47 hF.ex rfl (fun _ _ => rfl) rfl ?_
                          refine j_alen 323 dX1_copyFrom_322 rfl hF.cls (Nat.le_of_ble_eq_true rfl) rfl ?_
                          refine j_top (y := 40) rfl ?_
                          refine j_icmp_ge 326 347 dX1_copyFrom_323 rfl rfl (r32 (by omega) (by omega)) (r32 (by decide) (by decide)) (fun c_323 => absurd c_323 (by omega)) (fun c_323 => ?_)
                          refine j_aload_n 327 1 dX1_copyFrom_326 rfl rfl ?_
                          refine j_getr 330 dX1_copyFrom_327 rfl fl_X1_47 hE.ex rfl (fun _ _ => rfl) rfl ?_
                          refine j_iload_n 331 0 dX1_copyFrom_330 rfl rfl ?_
                          refine j_aald 332 k dX1_copyFrom_331 rfl hE.cls (Nat.le_of_ble_eq_true rfl) rfl rfl rfl (show k < 40 by omega) rfl ?_
                          refine j_aload_n 333 2 dX1_copyFrom_332 rfl rfl ?_
                          refine j_getr 336 dX1_copyFrom_333 rfl fl_X1_47 hF.ex rfl (fun _ _ => rfl) rfl ?_
                          refine j_iload_n 337 0 dX1_copyFrom_336 rfl rfl ?_
                          refine j_aald 338 k dX1_copyFrom_337 rfl hF.cls (Nat.le_of_ble_eq_true rfl) rfl rfl rfl (show k < 40 by omega) rfl ?_
                          refine j_callV 341 (As := [.ref (f + 35 + k)]) (kc2 := 0) (ks2 := 0) dX1_copyFrom_338 rfl mvX0_copyFrom lk_X1_118 (hE.cl k (show k < 40 by omega)) rfl ⟨Nat.le_of_ble_eq_true rfl, rfl⟩ rfl rfl (Nat.le_of_ble_eq_true rfl) ⟨Nat.le_of_ble_eq_true rfl, Nat.le_of_ble_eq_true rfl⟩ ⟨Nat.le_of_ble_eq_true rfl, Nat.le_of_ble_eq_true rfl⟩ (c_copyC (by omega) (hE.cl k (by omega)) (hF.cl k (by omega))) x_d (k_d0 ?_)
                          refine j_mem (cpA_s (by omega)) ?_
                          refine j_iinc 344 0 (y := ((k + 1 : Nat) : Int)) (L2 := [(2, .int (i32 (((k + 1 : Nat) : Int)))), (0, .ref (e)), (1, .ref (f))]) dX1_copyFrom_341 rfl rfl (by omega) (Nat.le_of_ble_eq_true rfl) rfl ?_
                          refine j_goto 308 dX1_copyFrom_344 rfl ?_
                          exact ih_308 (k + 1) (by omega) (by omega)
                    · refine j_iload_n 277 0 dX1_copyFrom_276 rfl rfl ?_
                      refine j_aload_n 278 2 dX1_copyFrom_277 rfl rfl ?_
                      refine j_getr 281 dX1_copyFrom_278 rfl fl_X1_40 hF.ex rfl (fun _ _ => rfl) rfl ?_
                      refine j_alen 282 dX1_copyFrom_281 rfl hF.mks (Nat.le_of_ble_eq_true rfl) rfl ?_
                      refine j_top (y := 3) rfl ?_
                      refine j_icmp_ge 285 306 dX1_copyFrom_282 rfl rfl (r32 (by omega) (by omega)) (r32 (by decide) (by decide)) (fun c_282 => absurd c_282 (by omega)) (fun c_282 => ?_)
                      refine j_aload_n 286 1 dX1_copyFrom_285 rfl rfl ?_
                      refine j_getr 289 dX1_copyFrom_286 rfl fl_X1_40 hE.ex rfl (fun _ _ => rfl) rfl ?_
                      refine j_iload_n 290 0 dX1_copyFrom_289 rfl rfl ?_
                      refine j_aald 291 k dX1_copyFrom_290 rfl hE.mks (Nat.le_of_ble_eq_true rfl) rfl rfl rfl (show k < 3 by omega) rfl ?_
                      refine j_aload_n 292 2 dX1_copyFrom_291 rfl rfl ?_
                      refine j_getr 295 dX1_copyFrom_292 rfl fl_X1_40 hF.ex rfl (fun _ _ => rfl) rfl ?_
                      refine j_iload_n 296 0 dX1_copyFrom_295 rfl rfl ?_
                      refine j_aald 297 k dX1_copyFrom_296 rfl hF.mks (Nat.le_of_ble_eq_true rfl) rfl rfl rfl (show k < 3 by omega) rfl ?_
                      refine j_callV 300 (As := [.ref (f + 31 + k)]) (kc2 := 0) (ks2 := 0) dX1_copyFrom_297 rfl mvX4_copyFrom lk_X1_115 (hE.mk k (show k < 3 by omega)) rfl ⟨Nat.le_of_ble_eq_true rfl, rfl⟩ rfl rfl (Nat.le_of_ble_eq_true rfl) ⟨Nat.le_of_ble_eq_true rfl, Nat.le_of_ble_eq_true rfl⟩ ⟨Nat.le_of_ble_eq_true rfl, Nat.le_of_ble_eq_true rfl⟩ (c_copyM (by omega) (hE.mk k (by omega)) (hF.mk k (by omega))) x_d (k_d0 ?_)
                      refine j_mem (cpA_s (by omega)) ?_
                      refine j_iinc 303 0 (y := ((k + 1 : Nat) : Int)) (L2 := [(2, .int (i32 (((k + 1 : Nat) : Int)))), (0, .ref (e)), (1, .ref (f))]) dX1_copyFrom_300 rfl rfl (by omega) (Nat.le_of_ble_eq_true rfl) rfl ?_
                      refine j_goto 267 dX1_copyFrom_303 rfl ?_
                      exact ih_267 (k + 1) (by omega) (by omega)
                · refine j_iload_n 236 0 dX1_copyFrom_235 rfl rfl ?_
                  refine j_aload_n 237 2 dX1_copyFrom_236 rfl rfl ?_
                  refine j_getr 240 dX1_copyFrom_237 rfl fl_X1_33 hF.ex rfl (fun _ _ => rfl) rfl ?_
                  refine j_alen 241 dX1_copyFrom_240 rfl hF.rgs (Nat.le_of_ble_eq_true rfl) rfl ?_
                  refine j_top (y := 4) rfl ?_
                  refine j_icmp_ge 244 265 dX1_copyFrom_241 rfl rfl (r32 (by omega) (by omega)) (r32 (by decide) (by decide)) (fun c_241 => absurd c_241 (by omega)) (fun c_241 => ?_)
                  refine j_aload_n 245 1 dX1_copyFrom_244 rfl rfl ?_
                  refine j_getr 248 dX1_copyFrom_245 rfl fl_X1_33 hE.ex rfl (fun _ _ => rfl) rfl ?_
                  refine j_iload_n 249 0 dX1_copyFrom_248 rfl rfl ?_
                  refine j_aald 250 k dX1_copyFrom_249 rfl hE.rgs (Nat.le_of_ble_eq_true rfl) rfl rfl rfl (show k < 4 by omega) rfl ?_
                  refine j_aload_n 251 2 dX1_copyFrom_250 rfl rfl ?_
                  refine j_getr 254 dX1_copyFrom_251 rfl fl_X1_33 hF.ex rfl (fun _ _ => rfl) rfl ?_
                  refine j_iload_n 255 0 dX1_copyFrom_254 rfl rfl ?_
                  refine j_aald 256 k dX1_copyFrom_255 rfl hF.rgs (Nat.le_of_ble_eq_true rfl) rfl rfl rfl (show k < 4 by omega) rfl ?_
                  refine j_callV 259 (As := [.ref (f + 26 + k)]) (kc2 := 0) (ks2 := 0) dX1_copyFrom_256 rfl mvX5_copyFrom lk_X1_112 (hE.rg k (show k < 4 by omega)) rfl ⟨Nat.le_of_ble_eq_true rfl, rfl⟩ rfl rfl (Nat.le_of_ble_eq_true rfl) ⟨Nat.le_of_ble_eq_true rfl, Nat.le_of_ble_eq_true rfl⟩ ⟨Nat.le_of_ble_eq_true rfl, Nat.le_of_ble_eq_true rfl⟩ (c_copyR (by omega) (hE.rg k (by omega)) (hF.rg k (by omega))) x_d (k_d0 ?_)
                  refine j_mem (cpA_s (by omega)) ?_
                  refine j_iinc 262 0 (y := ((k + 1 : Nat) : Int)) (L2 := [(2, .int (i32 (((k + 1 : Nat) : Int)))), (0, .ref (e)), (1, .ref (f))]) dX1_copyFrom_259 rfl rfl (by omega) (Nat.le_of_ble_eq_true rfl) rfl ?_
                  refine j_goto 226 dX1_copyFrom_262 rfl ?_
                  exact ih_226 (k + 1) (by omega) (by omega)
            · refine j_iload_n 195 0 dX1_copyFrom_194 rfl rfl ?_
              refine j_aload_n 196 2 dX1_copyFrom_195 rfl rfl ?_
              refine j_getr 199 dX1_copyFrom_196 rfl fl_X1_26 hF.ex rfl (fun _ _ => rfl) rfl ?_
              refine j_alen 200 dX1_copyFrom_199 rfl hF.rts (Nat.le_of_ble_eq_true rfl) rfl ?_
              refine j_top (y := 8) rfl ?_
              refine j_icmp_ge 203 224 dX1_copyFrom_200 rfl rfl (r32 (by omega) (by omega)) (r32 (by decide) (by decide)) (fun c_200 => absurd c_200 (by omega)) (fun c_200 => ?_)
              refine j_aload_n 204 1 dX1_copyFrom_203 rfl rfl ?_
              refine j_getr 207 dX1_copyFrom_204 rfl fl_X1_26 hE.ex rfl (fun _ _ => rfl) rfl ?_
              refine j_iload_n 208 0 dX1_copyFrom_207 rfl rfl ?_
              refine j_aald 209 k dX1_copyFrom_208 rfl hE.rts (Nat.le_of_ble_eq_true rfl) rfl rfl rfl (show k < 8 by omega) rfl ?_
              refine j_aload_n 210 2 dX1_copyFrom_209 rfl rfl ?_
              refine j_getr 213 dX1_copyFrom_210 rfl fl_X1_26 hF.ex rfl (fun _ _ => rfl) rfl ?_
              refine j_iload_n 214 0 dX1_copyFrom_213 rfl rfl ?_
              refine j_aald 215 k dX1_copyFrom_214 rfl hF.rts (Nat.le_of_ble_eq_true rfl) rfl rfl rfl (show k < 8 by omega) rfl ?_
              refine j_callV 218 (As := [.ref (f + 9 + 2 * k)]) (kc2 := 0) (ks2 := 0) dX1_copyFrom_215 rfl mvX6_copyFrom lk_X1_109 (hE.rt k (show k < 8 by omega)) rfl ⟨Nat.le_of_ble_eq_true rfl, rfl⟩ rfl rfl (Nat.le_of_ble_eq_true rfl) ⟨Nat.le_of_ble_eq_true rfl, Nat.le_of_ble_eq_true rfl⟩ ⟨Nat.le_of_ble_eq_true rfl, Nat.le_of_ble_eq_true rfl⟩ (c_copyRt (by omega) (by omega) (by omega) (hE.rt k (by omega)) (hE.ch k (by omega)) (hF.rt k (by omega)) (hF.ch k (by omega))) x_v (k_v fun g_215 h_215 => ?_)
              have hCn := hC.next (by omega) hd h_215
              refine j_iinc 221 0 (y := ((k + 1 : Nat) : Int)) (L2 := [(2, .int (i32 (((k + 1 : Nat) : Int)))), (0, .ref (e)), (1, .ref (f))]) dX1_copyFrom_218 rfl rfl (by omega) (Nat.le_of_ble_eq_true rfl) rfl ?_
              refine j_goto 185 dX1_copyFrom_221 rfl ?_
              exact ih_185 (k + 1) _ (by omega) (by omega) hCn
        · refine j_iload_n 154 0 dX1_copyFrom_153 rfl rfl ?_
          refine j_aload_n 155 2 dX1_copyFrom_154 rfl rfl ?_
          refine j_getr 158 dX1_copyFrom_155 rfl fl_X1_17 hF.ex rfl (fun _ _ => rfl) rfl ?_
          refine j_alen 159 dX1_copyFrom_158 rfl hF.grs (Nat.le_of_ble_eq_true rfl) rfl ?_
          refine j_top (y := 5) rfl ?_
          refine j_icmp_ge 162 183 dX1_copyFrom_159 rfl rfl (r32 (by omega) (by omega)) (r32 (by decide) (by decide)) (fun c_159 => absurd c_159 (by omega)) (fun c_159 => ?_)
          refine j_aload_n 163 1 dX1_copyFrom_162 rfl rfl ?_
          refine j_getr 166 dX1_copyFrom_163 rfl fl_X1_17 hE.ex rfl (fun _ _ => rfl) rfl ?_
          refine j_iload_n 167 0 dX1_copyFrom_166 rfl rfl ?_
          refine j_aald 168 k dX1_copyFrom_167 rfl hE.grs (Nat.le_of_ble_eq_true rfl) rfl rfl rfl (show k < 5 by omega) rfl ?_
          refine j_aload_n 169 2 dX1_copyFrom_168 rfl rfl ?_
          refine j_getr 172 dX1_copyFrom_169 rfl fl_X1_17 hF.ex rfl (fun _ _ => rfl) rfl ?_
          refine j_iload_n 173 0 dX1_copyFrom_172 rfl rfl ?_
          refine j_aald 174 k dX1_copyFrom_173 rfl hF.grs (Nat.le_of_ble_eq_true rfl) rfl rfl rfl (show k < 5 by omega) rfl ?_
          refine j_callV 177 (As := [.ref (f + 3 + k)]) (kc2 := 0) (ks2 := 0) dX1_copyFrom_174 rfl mvX2_copyFrom lk_X1_105 (hE.gr k (show k < 5 by omega)) rfl ⟨Nat.le_of_ble_eq_true rfl, rfl⟩ rfl rfl (Nat.le_of_ble_eq_true rfl) ⟨Nat.le_of_ble_eq_true rfl, Nat.le_of_ble_eq_true rfl⟩ ⟨Nat.le_of_ble_eq_true rfl, Nat.le_of_ble_eq_true rfl⟩ (c_copyG (by omega) (hE.gr k (by omega)) (hF.gr k (by omega))) x_d (k_d0 ?_)
          refine j_mem (cpA_s (by omega)) ?_
          refine j_iinc 180 0 (y := ((k + 1 : Nat) : Int)) (L2 := [(2, .int (i32 (((k + 1 : Nat) : Int)))), (0, .ref (e)), (1, .ref (f))]) dX1_copyFrom_177 rfl rfl (by omega) (Nat.le_of_ble_eq_true rfl) rfl ?_
          refine j_goto 144 dX1_copyFrom_180 rfl ?_
          exact ih_144 (k + 1) (by omega) (by omega)
    · refine j_iload_n 116 0 dX1_copyFrom_115 rfl rfl ?_
      refine j_aload_n 117 2 dX1_copyFrom_116 rfl rfl ?_
      refine j_getr 120 dX1_copyFrom_117 rfl fl_X1_9 hF.ex rfl (fun _ _ => rfl) rfl ?_
      refine j_alen 121 dX1_copyFrom_120 rfl hF.num (Nat.le_of_ble_eq_true rfl) rfl ?_
      refine j_top (y := 12) rfl ?_
      refine j_icmp_ge 124 142 dX1_copyFrom_121 rfl rfl (r32 (by omega) (by omega)) (r32 (by decide) (by decide)) (fun c_121 => absurd c_121 (by omega)) (fun c_121 => ?_)
      refine j_aload_n 125 1 dX1_copyFrom_124 rfl rfl ?_
      refine j_getr 128 dX1_copyFrom_125 rfl fl_X1_9 hE.ex rfl (fun _ _ => rfl) rfl ?_
      refine j_iload_n 129 0 dX1_copyFrom_128 rfl rfl ?_
      refine j_aload_n 130 2 dX1_copyFrom_129 rfl rfl ?_
      refine j_getr 133 dX1_copyFrom_130 rfl fl_X1_9 hF.ex rfl (fun _ _ => rfl) rfl ?_
      refine j_iload_n 134 0 dX1_copyFrom_133 rfl rfl ?_
      refine j_iald 135 k dX1_copyFrom_134 rfl hF.num rfl rfl (show k < 12 by omega) (fun r_134 => ?_)
      refine j_top (y := g1 (f + 1) k) (cpR_b (by omega)) ?_
      refine j_iast 136 k dX1_copyFrom_135 rfl hE.num rfl rfl (show k < 12 by omega) (by have h := r_134; rw [cpR_b (by omega)] at h; exact h) ?_
      refine j_mn (fun g_135 hg_135 => ?_)
      refine j_mem (hg_135.trans (cpR_s (by omega))) ?_
      refine j_iinc 139 0 (y := ((k + 1 : Nat) : Int)) (L2 := [(2, .int (i32 (((k + 1 : Nat) : Int)))), (0, .ref (e)), (1, .ref (f))]) dX1_copyFrom_136 rfl rfl (by omega) (Nat.le_of_ble_eq_true rfl) rfl ?_
      refine j_goto 106 dX1_copyFrom_139 rfl ?_
      exact ih_106 (k + 1) (by omega) (by omega)
