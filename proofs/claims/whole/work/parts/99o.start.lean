/-! the law's start -/
theorem cl_L_8 : Cond.classLink RL 8 (f_C 8) ∈ lw_good := by decide +kernel
theorem cl_L_70 : Cond.classLink RL 70 (f_C 9) ∈ lw_good := by decide +kernel
theorem na_long : Cond.arrayClass .long ∈ lw_good := by decide +kernel
theorem na_double : Cond.arrayClass .double ∈ lw_good := by decide +kernel
section JNL
variable {w : Wd} {Y : MD} {pc : Nat} {L : List (Nat × Value)} {S : List Value} {sh : Shp} {g : Mem} {kc ks : Nat} {Q : Post}
/-- a new long[] (12) or double[] (13) -/
theorem j_newL (n : Nat) {a N : Nat} {x : Int} {kc2 ks2 : Nat} (hd : decode (md_c Y) pc = .ok (.newarray .long, 2)) (hn : pc + 2 = n) (hx : x = (N : Int)) (hN : N < 10000)
    (hsz : sh.2 = some a) (hk : kc2 + 1 ≤ kc ∧ ks2 + N ≤ ks) (kk : J w Y n L (.ref a :: S) (shN sh a (12, N, kN)) (gN g a) kc2 ks2 Q) : J w Y pc L (.int (i32 x) :: S) sh g kc ks Q := by
  subst hn
  subst hx
  intro p l e s m args below meth c H locs cells slots Z ls C hZ hR hlo hc hs hll
  have hts := C.2.2.2.2.1
  have hsa := hR.2.2.2 a hsz
  have hcl := nI_clamp (n := N) (by omega)
  have hneg : ¬ i32 (N : Int) < 0 := fun h => by
    have := (i32_lt (x := (N : Int)) (y := 0) (r32 (by omega) (by omega)) (r32 (by decide) (by decide))).mp h
    omega
  have hK2 := C.2.2.2.2.2.1.1.2
  refine va_newaK (atype := .long) C.1 C.2.1 (hts _ na_long) rfl hd rfl hneg hcl (by show N * 8 ≤ _; omega) (show cells + 1 ≤ md_mc Y by omega) (show slots + N ≤ md_ms Y by omega) hsa fun H1 cA e1 z1 o1 hAr hNm => ?_
  have hca : cA = w.2.1 12 := Option.some.inj (hNm.symm.trans (hK2 2 _ rfl).2)
  refine kk p l e s m args below meth c H1 locs (cells + 1) (slots + N) Z ls C hZ (hR.add hsz z1 o1 ?_ (by show N < _; omega)) hlo (by omega) (by omega) hll
  subst hca
  exact e1
theorem j_newD (n : Nat) {a N : Nat} {x : Int} {kc2 ks2 : Nat} (hd : decode (md_c Y) pc = .ok (.newarray .double, 2)) (hn : pc + 2 = n) (hx : x = (N : Int)) (hN : N < 10000)
    (hsz : sh.2 = some a) (hk : kc2 + 1 ≤ kc ∧ ks2 + N ≤ ks) (kk : J w Y n L (.ref a :: S) (shN sh a (13, N, kN)) (gN g a) kc2 ks2 Q) : J w Y pc L (.int (i32 x) :: S) sh g kc ks Q := by
  subst hn
  subst hx
  intro p l e s m args below meth c H locs cells slots Z ls C hZ hR hlo hc hs hll
  have hts := C.2.2.2.2.1
  have hsa := hR.2.2.2 a hsz
  have hcl := nI_clamp (n := N) (by omega)
  have hneg : ¬ i32 (N : Int) < 0 := fun h => by
    have := (i32_lt (x := (N : Int)) (y := 0) (r32 (by omega) (by omega)) (r32 (by decide) (by decide))).mp h
    omega
  have hK2 := C.2.2.2.2.2.1.1.2
  refine va_newaK (atype := .double) C.1 C.2.1 (hts _ na_double) rfl hd rfl hneg hcl (by show N * 8 ≤ _; omega) (show cells + 1 ≤ md_mc Y by omega) (show slots + N ≤ md_ms Y by omega) hsa fun H1 cA e1 z1 o1 hAr hNm => ?_
  have hca : cA = w.2.1 13 := Option.some.inj (hNm.symm.trans (hK2 3 _ rfl).2)
  refine kk p l e s m args below meth c H1 locs (cells + 1) (slots + N) Z ls C hZ (hR.add hsz z1 o1 ?_ (by show N < _; omega)) hlo (by omega) (by omega) hll
  subst hca
  exact e1
end JNL
theorem row0_6 {r m : Int} : row0 r m 6 = 0 := rfl
set_option maxRecDepth 20000 in
theorem law_start {w : Wd} (h3 : sL w ≤ 3072) {B : Nat} (g : Mem) : J w mLaw 0 [(0, .ref (w.2.1 300))] [] ((fun _ => none), some B) g 601024 7293034 QL := by
  refine j_new 3 (ci := 8) (a := B) (kc2 := 601023) (ks2 := 7293027) dL_law_0 rfl (by decide) cl_L_8 ni_8.1 ni_8.2 dv_8 rfl ⟨Nat.le_of_ble_eq_true rfl, Nat.le_of_ble_eq_true rfl⟩ ?_
  refine j_dup 4 dL_law_3 rfl rfl ?_
  refine j_callI 7 (As := []) (kc2 := 600193) (ks2 := 7284161) dL_law_4 rfl miX9_init lk_L_69 rfl rfl rfl (Nat.le_of_ble_eq_true rfl) ⟨Nat.le_of_ble_eq_true rfl, Nat.le_of_ble_eq_true rfl⟩ ⟨Nat.le_of_ble_eq_true rfl, Nat.le_of_ble_eq_true rfl⟩ (n_X9 shN_s rfl) x_k (k_k fun sh1 g1 h1 => ?_)
  obtain ⟨a1, a2, a3, a4, a5, a6, a7, a8, a9, a10, -⟩ := h1
  refine j_astore_n 8 (L2 := [(1, .ref B), (0, .ref (w.2.1 300))]) dL_law_7 rfl rfl (Nat.le_of_ble_eq_true rfl) rfl ?_
  refine j_new 11 (ci := 9) (a := B + 831) (kc2 := 600192) (ks2 := 7284140) dL_law_8 rfl (by decide) cl_L_70 ni_9.1 ni_9.2 dv_9 a1 ⟨Nat.le_of_ble_eq_true rfl, Nat.le_of_ble_eq_true rfl⟩ ?_
  refine j_dup 12 dL_law_11 rfl rfl ?_
  refine j_callI 15 (As := []) (kc2 := 600179) (ks2 := 7275413) dL_law_12 rfl miX10_init lk_L_72 rfl rfl rfl (Nat.le_of_ble_eq_true rfl) ⟨Nat.le_of_ble_eq_true rfl, Nat.le_of_ble_eq_true rfl⟩ ⟨Nat.le_of_ble_eq_true rfl, Nat.le_of_ble_eq_true rfl⟩ (n_X10 shN_s rfl) x_k (k_k fun sh2 g2 h2 => ?_)
  obtain ⟨b1, b2, b3, b4, b5, b6, b7⟩ := h2
  have S2 : ∀ a, a < B + 831 → sh2.1 a = sh1.1 a ∧ g2 a = g1 a := fun a ha => by
    obtain ⟨c1, c2⟩ := b7 a ha
    exact ⟨c1.trans (shN_o (by omega)), c2.trans (gN_o (by omega))⟩
  refine j_astore_n 16 (L2 := [(2, .ref (B + 831)), (1, .ref B), (0, .ref (w.2.1 300))]) dL_law_15 rfl rfl (Nat.le_of_ble_eq_true rfl) rfl ?_
  refine j_iconst 17 dL_law_16 rfl ?_
  refine j_newL 19 (a := B + 845) (N := 1) (kc2 := 600178) (ks2 := 7275412) dL_law_17 rfl rfl (by decide) b1 ⟨Nat.le_of_ble_eq_true rfl, Nat.le_of_ble_eq_true rfl⟩ ?_
  refine j_astore_n 20 (L2 := [(3, .ref (B + 845)), (2, .ref (B + 831)), (1, .ref B), (0, .ref (w.2.1 300))]) dL_law_19 rfl rfl (Nat.le_of_ble_eq_true rfl) rfl ?_
  refine j_iconst 21 dL_law_20 rfl ?_
  refine j_newD 23 (a := B + 846) (N := 1) (kc2 := 600177) (ks2 := 7275411) dL_law_21 rfl rfl (by decide) rfl ⟨Nat.le_of_ble_eq_true rfl, Nat.le_of_ble_eq_true rfl⟩ ?_
  refine j_astore 25 (L2 := [(4, .ref (B + 846)), (3, .ref (B + 845)), (2, .ref (B + 831)), (1, .ref B), (0, .ref (w.2.1 300))]) dL_law_23 rfl (Nat.le_of_ble_eq_true rfl) rfl ?_
  refine j_iconst 26 dL_law_25 rfl ?_
  refine j_istore 28 (L2 := [(5, .int (i32 ((6 * 0 : Nat) : Int))), (4, .ref (B + 846)), (3, .ref (B + 845)), (2, .ref (B + 831)), (1, .ref B), (0, .ref (w.2.1 300))]) dL_law_26 rfl (Nat.le_of_ble_eq_true rfl) rfl ?_
  refine j_sub [5, 4, 3, 2, 1, 0] (L2 := LL w B (6 * 0)) rfl ?_
  refine j_shn (fun sh3 hsh3 => ?_)
  refine j_mn (fun g3 hg3 => ?_)
  have S3 : ∀ a, a < B + 845 → sh3.1 a = sh2.1 a ∧ g3 a = g2 a := fun a ha => by
    rw [hsh3, hg3]
    exact ⟨(shN_o (by omega)).trans (shN_o (by omega)), (gN_o (by omega)).trans (gN_o (by omega))⟩
  have S4 : ∀ a, a < B + 831 → sh3.1 a = sh1.1 a ∧ g3 a = g1 a := fun a ha => ⟨(S3 a (by omega)).1.trans (S2 a ha).1, (S3 a (by omega)).2.trans (S2 a ha).2⟩
  have hS : LSh B sh3 := by
    refine ⟨?_, ⟨_, (S4 _ (by omega)).1.trans a3⟩, a4.same (fun a _ _ => (S4 a (by omega)).1), ?_, ?_, ?_⟩
    · obtain ⟨c1, c2, c3, c4, c5, c6, c7⟩ := a2
      exact ⟨(S4 _ (by omega)).1.trans c1, (S4 _ (by omega)).1.trans c2, c3.same (fun a _ _ => (S4 a (by omega)).1), c4.same (fun a _ _ => (S4 a (by omega)).1), (S4 _ (by omega)).1.trans c5, (S4 _ (by omega)).1.trans c6, fun i hi => (c7 i hi).same (fun a _ _ => (S4 a (by omega)).1)⟩
    · obtain ⟨m1, m2, m3, m4, m5, m6, m7⟩ := b2
      exact ⟨(S3 _ (by omega)).1.trans m1, (S3 _ (by omega)).1.trans m2, (S3 _ (by omega)).1.trans m3, (S3 _ (by omega)).1.trans m4, (S3 _ (by omega)).1.trans m5, (S3 _ (by omega)).1.trans m6, fun i hi => (S3 _ (by omega)).1.trans (m7 i hi)⟩
    · rw [hsh3]; exact (shN_o (by omega)).trans shN_s
    · rw [hsh3]; exact shN_s
  have hm := (S3 (B + 831) (by omega)).2
  have hL : LM B 0 g3 (row0 1 1) (fun _ => row0 1 1) 0 := by
    refine ⟨((pinv_0 (by decide) (by decide)).kx a5).rows (fun a _ _ => (S4 a (by omega)).2), (a7 _).rows (fun a _ _ => (S4 a (by omega)).2), ⟨?_, by decide, fun j hj => absurd hj (by omega)⟩, (S3 _ (by omega)).2.trans b3, a6.fr (fun a _ _ => (S4 a (by omega)).2), a8.fr (fun a _ _ => (S4 a (by omega)).2), by rw [row0_6]; decide, (fun j hj => absurd hj (by omega)), ?_, ?_, ?_⟩
    · rw [hm, b5]; exact gN_s
    · rw [hm, (S4 B (by omega)).2, a9, b4]
      exact ⟨gN_s.symm, by decide, by decide⟩
    · rw [(S4 B (by omega)).2, a9]
      exact fun k hk => absurd hk (by omega)
    · rw [hm, (S4 B (by omega)).2, a10, b6]
  exact j_widen (by decide) (by decide) (law_loop h3 512 0 sh3 g3 ⟨hS, _, _, _, hL⟩ rfl)
