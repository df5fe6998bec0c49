/-! the reference is made -/
def shM (sh : Shp) (a N K : Nat) : Shp := (fun q => if q = a then some (20, N, fun i => some (a + 1 + i)) else if a < q ∧ q ≤ a + N then some (10, K, kN) else sh.1 q, some (a + 1 + N))
def gM (g : Mem) (a N : Nat) : Mem := fun q j => if a ≤ q ∧ q ≤ a + N then 0 else g q j
theorem Rep.mna {w : Wd} {sh : Shp} {g : Mem} {H H1 : Heap} {a N K : Nat} (hR : Rep w sh g H) (hs : sh.2 = some a) (hN : N < 10000) (hK : K < 10000) (z : H1.size = a + 1 + N) (oq : ∀ q : Nat, q < a → H1[q]? = H[q]?)
    (h0 : H1[a]? = some (vp_cell (w.2.1 20) (N, .inr (.inr (.inr (.inr (fun i => if i < N then some (a + 1 + i) else none))))))) (hr : ∀ j, j < N → H1[a + 1 + j]? = some (vp_cell (w.2.1 10) (K, .inl fun _ => i32 0))) : Rep w (shM sh a N K) (gM g a N) H1 := by
  obtain ⟨h1, h2, h3, h4⟩ := hR
  have ha := h4 a hs
  refine ⟨fun b kb hb => ?_, by omega, fun q hq => ?_, fun n hn => by cases hn; exact z⟩
  · have hb : (if b = a then some ((20, N, fun i => some (a + 1 + i)) : Kd) else if a < b ∧ b ≤ a + N then some (10, K, kN) else sh.1 b) = some kb := hb
    by_cases e : b = a
    · subst e
      rw [if_pos rfl] at hb
      cases hb
      refine ⟨by omega, ?_, show N < _ by omega, fun j => ?_⟩
      · rw [c_E_q (k := (20, N, fun i => some (b + 1 + i))) (show 14 ≤ 20 by decide)]
        show H1[b]? = some (vp_cell _ _)
        rw [h0, vp_cell_q, vp_cell_q]
        congr 1
        unfold arrV
        congr 1
        apply Array.ext
        · simp
        · intro i hi1 hi2
          have hi : i < N := by simpa using hi1
          simp [hi]
      · unfold k_rng
        rw [if_neg (show ¬ 20 < 10 by decide), if_neg (show ¬ 20 = 11 by decide), if_neg (show ¬ 20 = 10 by decide)]
        trivial
    · rw [if_neg e] at hb
      by_cases e2 : a < b ∧ b ≤ a + N
      · rw [if_pos e2] at hb
        cases hb
        obtain ⟨j, hj⟩ : ∃ j, b = a + 1 + j := ⟨b - (a + 1), by omega⟩
        have er : gM g a N b = fun _ => 0 := funext fun i => if_pos ⟨by omega, by omega⟩
        rw [er]
        refine ⟨by omega, ?_, show K < _ by omega, fun i => ?_⟩
        · have h9 := hr j (by omega)
          rw [← hj] at h9
          exact h9
        · show k_rng (10, K, kN) i 0
          unfold k_rng
          rw [if_neg (show ¬ 10 < 10 by decide), if_neg (show ¬ 10 = 11 by decide), if_pos rfl]
          exact ⟨by decide, by decide⟩
      · rw [if_neg e2] at hb
        obtain ⟨b1, b2, b3, b4⟩ := h1 b kb hb
        have hlt : b < a := by rw [← ha]; exact b2.lt
        have er : gM g a N b = g b := funext fun i => if_neg (by omega)
        rw [er]
        exact ⟨b1, b2.kept (oq b hlt), b3, b4⟩
  · rw [oq q (by omega)]
    exact h3 q hq
theorem j_mna {w : Wd} {Y : MD} {pc : Nat} {L : List (Nat × Value)} {S : List Value} {sh : Shp} {g : Mem} {kc ks : Nat} {Q : Post} (n : Nat) {idx a N K : Nat} {x y : Int} {kc2 ks2 : Nat} (hd : decode (md_c Y) pc = .ok (.multianewarray idx 2, 4)) (hn : pc + 4 = n) (hx : x = (N : Int)) (hy : y = (K : Int)) (hN : N < 10000) (hKk : K < 10000)
    (hl : Cond.classLink (md_o Y) idx ("[" ++ (FieldType.array .int).toString) ∈ lw_good) (hsz : sh.2 = some a) (hk : kc2 + (1 + N) ≤ kc ∧ ks2 + (N + N * K) ≤ ks) (kk : J w Y n L (.ref a :: S) (shM sh a N K) (gM g a N) kc2 ks2 Q) : J w Y pc L (.int (i32 y) :: .int (i32 x) :: S) sh g kc ks Q := by
  subst hn
  subst hx
  subst hy
  intro p l e s m args below meth c H locs cells slots Z ls C hZ hR hlo hc hs hll
  have hts := C.2.2.2.2.1
  have hsa := hR.2.2.2 a hsz
  have hclN := nI_clamp (n := N) (by omega)
  have hclK := nI_clamp (n := K) (by omega)
  have hneg : ∀ M : Nat, M < 10000 → ¬ i32 (M : Int) < 0 := fun M hM h => by
    have := (i32_lt (x := (M : Int)) (y := 0) (r32 (by omega) (by omega)) (r32 (by decide) (by decide))).mp h
    omega
  have hK2 := C.2.2.2.2.2.1.1.2
  have hAOA := C.2.2.2.2.2.1.2.2.2.2.2.2.2.2.2.2.2.2.2.1
  intro T hT Xs
  obtain ⟨vm₁, cA, comp, -, fA, fC, hO, -, X', step⟩ := Xs.multianewarray2F C.1 C.2.2.2.1 (hts _ hl) (va_AOA.use hAOA) (hts _ na_int) (g := F0 m pc ls (.int (i32 (K : Int)) :: .int (i32 (N : Int)) :: S)) rfl (by rw [C.2.1]; exact hd) rfl (hneg N hN) (hneg K hKk) (by rw [show (i32 (N : Int)).toNatClampNeg = N from hclN]; omega) (by rw [show (i32 (K : Int)).toNatClampNeg = K from hclK]; show K * 4 ≤ _; omega) (by rw [show (i32 (K : Int)).toNatClampNeg = K from hclK]; omega) rfl rfl (by rw [show (i32 (N : Int)).toNatClampNeg = N from hclN]; show cells + (1 + N) ≤ md_mc Y; omega) (by rw [show (i32 (N : Int)).toNatClampNeg = N from hclN, show (i32 (K : Int)).toNatClampNeg = K from hclK]; show slots + (N + N * K) ≤ md_ms Y; omega)
  rw [show (i32 (N : Int)).toNatClampNeg = N from hclN, show (i32 (K : Int)).toNatClampNeg = K from hclK] at X' step
  have hcy : comp = w.2.1 10 := Option.some.inj (fC.symm.trans (hK2 0 _ rfl).2)
  have hcA : cA = w.2.1 20 := Option.some.inj (fA.symm.trans (hK2 10 _ rfl).2)
  subst hcy
  subst hcA
  generalize hF : Jvm.Free.Multi.fill (T.setVm vm₁) (w.2.1 20) (w.2.1 10) N K (defaultValue .int) N = F at X' step
  have hTh : (T.setVm vm₁).heap = H := hT
  obtain ⟨f1, f2, -, -⟩ := Jvm.Free.Multi.fill_facts (T.setVm vm₁) (w.2.1 20) (w.2.1 10) N K (defaultValue .int) N
  rw [hF, hTh] at f1 f2
  have hold : ∀ x : Nat, x < H.size → F.heap[x]? = H[x]? := fun x hx => by
    have := Jvm.Free.Multi.fill_old (T.setVm vm₁) (w.2.1 20) (w.2.1 10) N K (defaultValue .int) (a := x) (by rw [hTh]; exact hx) N
    rw [hF, hTh] at this
    exact this
  have hz : Jvm.Free.Multi.innerC (w.2.1 10) K (defaultValue .int) = vp_cell (w.2.1 10) (K, .inl fun _ => i32 0) := arrV_new _ K (.int 0)
  have hrow : ∀ j : Nat, j < N → F.heap[H.size + 1 + j]? = some (vp_cell (w.2.1 10) (K, .inl fun _ => i32 0)) := fun j hj => by
    have := Jvm.Free.Multi.fill_inner (T.setVm vm₁) (w.2.1 20) (w.2.1 10) N K (defaultValue .int) N j hj
    rw [hF, hTh, hz] at this
    exact this
  have hout : Jvm.Free.Multi.outerC (w.2.1 20) N H.size N = vp_cell (w.2.1 20) (N, .inr (.inr (.inr (.inr (fun i => if i < N then some (H.size + 1 + i) else none))))) := by
    rw [vp_cell_q]
    exact vr_outer (w.2.1 20) N H.size N
  rw [hout] at f2
  have e : T.heap.size = a := by rw [hT, hsa]
  rw [hsa] at f1 f2 hrow hold
  have hR1 := hR.mna hsz hN hKk f1 hold f2 hrow
  rw [e] at step
  obtain ⟨t, a1, b1⟩ := kk p l _ s m args below meth c F.heap locs (cells + (1 + N)) (slots + (N + N * K)) Z ls C hZ hR1 hlo (by omega) (by omega) hll F rfl (by simpa [Nat.add_assoc] using X')
  exact ⟨t, step t a1, b1⟩
theorem cl_X10_26 : Cond.classLink RX10 26 ("[" ++ (FieldType.array .int).toString) ∈ lw_good := by decide +kernel
set_option linter.constructorNameAsVariable false in
theorem n_X10 {w : Wd} {sh : Shp} {g : Mem} {a : Nat} (he : sh.1 a = some (9, 0, kN)) (hs : sh.2 = some (a + 1)) : CT w mX10_init [.ref a] sh g (kQ fun sh2 g2 => sh2.2 = some (a + 14) ∧ MdS sh2.1 a ∧ g2 (a + 2) = row0 1 1 ∧ g2 a 2 = g a 2 ∧ g2 a 12 = g a 12 ∧ g2 a 7 = -1 ∧ Gr0 sh sh2 g g2 a) := by
  refine j_entry (by decide) rfl (Nat.le_of_ble_eq_true rfl) (fun _ => rfl) rfl ?_
  show J w mX10_init 0 [(0, .ref a)] [] sh g 13 8727 _
  refine j_aload_n 1 0 dX10_init_0 rfl rfl ?_
  refine j_objInit 4 dX10_init_1 rfl oi_X10 (Nat.le_of_ble_eq_true rfl) (Nat.le_of_ble_eq_true rfl) ?_
  refine j_aload_n 5 0 dX10_init_4 rfl rfl ?_
  refine j_sipush 8 dX10_init_5 rfl (by decide) ?_
  refine j_newa 10 (N := 700) (kc2 := 12) (ks2 := 8027) dX10_init_8 rfl rfl (by decide) na_int (Or.inl ⟨rfl, rfl⟩) hs ⟨Nat.le_of_ble_eq_true rfl, Nat.le_of_ble_eq_true rfl⟩ ?_
  refine j_putr 13 dX10_init_10 rfl fl_X10_9 (shN_o (by omega) |>.trans he) rfl (by first | exact Or.inl rfl | exact Or.inr ⟨rfl, rfl, rfl⟩) (Or.inr ⟨_, rfl⟩) ?_
  refine j_shn (fun sh1 hsh1 => ?_)
  refine j_mn (fun g1 hg1 => ?_)
  have A1 : sh1.2 = some (a + 1 + 1) := by rw [hsh1]; rfl
  have K1 : sh1.1 a = some (kdR (9, 0, kN) 1 (some (a + 1))) := by rw [hsh1]; exact shP_s
  have N1 : sh1.1 (a + 1) = some (10, 700, kN) := by rw [hsh1, shP_o (by omega)]; exact shN_s
  have P1 : ∀ b, b < a + 1 → (b ≠ a → sh1.1 b = sh.1 b) ∧ g1 b = g b := fun b hb => ⟨fun h => by rw [hsh1, shP_o h, shN_o (by omega)], by rw [hg1, gN_o (by omega)]⟩
  refine j_aload_n 14 0 dX10_init_13 rfl rfl ?_
  refine j_iconst 15 dX10_init_14 rfl ?_
  refine j_putF 18 dX10_init_15 rfl fl_X10_13 K1 rfl (by first | exact Or.inl rfl | exact Or.inr ⟨rfl, rfl, rfl⟩) rfl (r32 (by decide) (by decide)) ?_
  refine j_mn (fun g1b hg1b => ?_)
  refine j_aload_n 19 0 dX10_init_18 rfl rfl ?_
  refine j_sipush 22 dX10_init_19 rfl (by decide) ?_
  refine j_newa 24 (N := 729) (kc2 := 11) (ks2 := 7298) dX10_init_22 rfl rfl (by decide) na_int (Or.inl ⟨rfl, rfl⟩) A1 ⟨Nat.le_of_ble_eq_true rfl, Nat.le_of_ble_eq_true rfl⟩ ?_
  refine j_putr 27 dX10_init_24 rfl fl_X10_17 (shN_o (by omega) |>.trans K1) rfl (by first | exact Or.inl rfl | exact Or.inr ⟨rfl, rfl, rfl⟩) (Or.inr ⟨_, rfl⟩) ?_
  refine j_shn (fun sh2 hsh2 => ?_)
  refine j_mn (fun g2 hg2 => ?_)
  have A2 : sh2.2 = some (a + 2 + 1) := by rw [hsh2]; rfl
  have K2 : sh2.1 a = some (kdR (kdR (9, 0, kN) 1 (some (a + 1))) 8 (some (a + 2))) := by rw [hsh2]; exact shP_s
  have N2 : sh2.1 (a + 2) = some (10, 729, kN) := by rw [hsh2, shP_o (by omega)]; exact shN_s
  have P2 : ∀ b, b < a + 2 → (b ≠ a → sh2.1 b = sh1.1 b) ∧ g2 b = g1b b := fun b hb => ⟨fun h => by rw [hsh2, shP_o h, shN_o (by omega)], by rw [hg2, gN_o (by omega)]⟩
  refine j_aload_n 28 0 dX10_init_27 rfl rfl ?_
  refine j_sipush 31 dX10_init_28 rfl (by decide) ?_
  refine j_newa 33 (N := 729) (kc2 := 10) (ks2 := 6569) dX10_init_31 rfl rfl (by decide) na_int (Or.inl ⟨rfl, rfl⟩) A2 ⟨Nat.le_of_ble_eq_true rfl, Nat.le_of_ble_eq_true rfl⟩ ?_
  refine j_putr 36 dX10_init_33 rfl fl_X10_20 (shN_o (by omega) |>.trans K2) rfl (by first | exact Or.inl rfl | exact Or.inr ⟨rfl, rfl, rfl⟩) (Or.inr ⟨_, rfl⟩) ?_
  refine j_shn (fun sh3 hsh3 => ?_)
  refine j_mn (fun g3 hg3 => ?_)
  have A3 : sh3.2 = some (a + 3 + 1) := by rw [hsh3]; rfl
  have K3 : sh3.1 a = some (kdR (kdR (kdR (9, 0, kN) 1 (some (a + 1))) 8 (some (a + 2))) 9 (some (a + 3))) := by rw [hsh3]; exact shP_s
  have N3 : sh3.1 (a + 3) = some (10, 729, kN) := by rw [hsh3, shP_o (by omega)]; exact shN_s
  have P3 : ∀ b, b < a + 3 → (b ≠ a → sh3.1 b = sh2.1 b) ∧ g3 b = g2 b := fun b hb => ⟨fun h => by rw [hsh3, shP_o h, shN_o (by omega)], by rw [hg3, gN_o (by omega)]⟩
  refine j_aload_n 37 0 dX10_init_36 rfl rfl ?_
  refine j_sipush 40 dX10_init_37 rfl (by decide) ?_
  refine j_newa 42 (N := 729) (kc2 := 9) (ks2 := 5840) dX10_init_40 rfl rfl (by decide) na_int (Or.inl ⟨rfl, rfl⟩) A3 ⟨Nat.le_of_ble_eq_true rfl, Nat.le_of_ble_eq_true rfl⟩ ?_
  refine j_putr 45 dX10_init_42 rfl fl_X10_23 (shN_o (by omega) |>.trans K3) rfl (by first | exact Or.inl rfl | exact Or.inr ⟨rfl, rfl, rfl⟩) (Or.inr ⟨_, rfl⟩) ?_
  refine j_shn (fun sh4 hsh4 => ?_)
  refine j_mn (fun g4 hg4 => ?_)
  have A4 : sh4.2 = some (a + 4 + 1) := by rw [hsh4]; rfl
  have K4 : sh4.1 a = some (kdR (kdR (kdR (kdR (9, 0, kN) 1 (some (a + 1))) 8 (some (a + 2))) 9 (some (a + 3))) 10 (some (a + 4))) := by rw [hsh4]; exact shP_s
  have N4 : sh4.1 (a + 4) = some (10, 729, kN) := by rw [hsh4, shP_o (by omega)]; exact shN_s
  have P4 : ∀ b, b < a + 4 → (b ≠ a → sh4.1 b = sh3.1 b) ∧ g4 b = g3 b := fun b hb => ⟨fun h => by rw [hsh4, shP_o h, shN_o (by omega)], by rw [hg4, gN_o (by omega)]⟩
  refine j_aload_n 46 0 dX10_init_45 rfl rfl ?_
  refine j_bipush 48 dX10_init_46 rfl (by decide) ?_
  refine j_sipush 51 dX10_init_48 rfl (by decide) ?_
  refine j_mna 55 (a := a + 5) (N := 8) (K := 729) (kc2 := 0) (ks2 := 0) dX10_init_51 rfl rfl rfl (by decide) (by decide) cl_X10_26 A4 ⟨Nat.le_of_ble_eq_true rfl, Nat.le_of_ble_eq_true rfl⟩ ?_
  have K5a : (shM sh4 (a + 5) 8 729).1 a = some (kdR (kdR (kdR (kdR (9, 0, kN) 1 (some (a + 1))) 8 (some (a + 2))) 9 (some (a + 3))) 10 (some (a + 4))) := by
    show (if a = a + 5 then _ else if a + 5 < a ∧ a ≤ a + 5 + 8 then _ else sh4.1 a) = _
    rw [if_neg (by omega), if_neg (by omega)]; exact K4
  refine j_putr 58 dX10_init_55 rfl fl_X10_28 K5a rfl (by first | exact Or.inl rfl | exact Or.inr ⟨rfl, rfl, rfl⟩) (Or.inr ⟨_, rfl⟩) ?_
  rw [kMd_new]
  refine j_shn (fun sh5 hsh5 => ?_)
  refine j_mn (fun g5 hg5 => ?_)
  have Q5 : ∀ b, b < a + 5 → b ≠ a → sh5.1 b = sh4.1 b := fun b hb h => by
    rw [hsh5, shP_o h]
    show (if b = a + 5 then _ else if a + 5 < b ∧ b ≤ a + 5 + 8 then _ else sh4.1 b) = _
    rw [if_neg (by omega), if_neg (by omega)]
  have G5 : ∀ b, b < a + 5 → g5 b = g4 b := fun b hb => by rw [hg5]; exact funext fun j => if_neg (by omega)
  have hM : MdS sh5.1 a := by
    refine ⟨by rw [hsh5]; exact shP_s, ?_, ?_, ?_, ?_, ?_, fun i hi => ?_⟩
    · rw [Q5 _ (by omega) (by omega), (P4 _ (by omega)).1 (by omega), (P3 _ (by omega)).1 (by omega), (P2 _ (by omega)).1 (by omega)]; exact N1
    · rw [Q5 _ (by omega) (by omega), (P4 _ (by omega)).1 (by omega), (P3 _ (by omega)).1 (by omega)]; exact N2
    · rw [Q5 _ (by omega) (by omega), (P4 _ (by omega)).1 (by omega)]; exact N3
    · rw [Q5 _ (by omega) (by omega)]; exact N4
    · rw [hsh5, shP_o (by omega)]; exact if_pos rfl
    · rw [hsh5, shP_o (by omega)]
      show (if a + 6 + i = a + 5 then _ else if a + 5 < a + 6 + i ∧ a + 6 + i ≤ a + 5 + 8 then some ((10, 729, kN) : Kd) else sh4.1 (a + 6 + i)) = _
      rw [if_neg (by omega), if_pos ⟨by omega, by omega⟩]
  refine j_aload_n 59 0 dX10_init_58 rfl rfl ?_
  refine j_getr 62 dX10_init_59 rfl fl_X10_17 hM.md rfl (fun _ _ => rfl) rfl ?_
  refine j_iconst 63 dX10_init_62 rfl ?_
  refine j_iconst 64 dX10_init_63 rfl ?_
  refine j_callS 67 (As := [.ref (a + 2), .int (i32 1), .int (i32 1)]) (kc2 := 0) (ks2 := 0) dX10_init_64 rfl msX10_layExchange lk_X10_31 rfl rfl (Nat.le_of_ble_eq_true rfl) ⟨Nat.le_of_ble_eq_true rfl, Nat.le_of_ble_eq_true rfl⟩ ⟨Nat.le_of_ble_eq_true rfl, Nat.le_of_ble_eq_true rfl⟩ (rp_lay hM.dat (r32 (by decide) (by decide)) (r32 (by decide) (by decide))) x_d (k_d0 ?_)
  have c1 : g1b a 7 = -1 ∧ g1b a 2 = g a 2 ∧ g1b a 12 = g a 12 := by rw [hg1b]; exact ⟨up2_s, by rw [up2_k (by decide), (P1 a (by omega)).2], by rw [up2_k (by decide), (P1 a (by omega)).2]⟩
  have c2 : ∀ b, b < a + 2 → g5 b = g1b b := fun b hb => by rw [G5 b (by omega), (P4 b (by omega)).2, (P3 b (by omega)).2, (P2 b (by omega)).2]
  refine j_vret dX10_init_67 rfl ⟨rfl, by rw [hsh5]; rfl, hM, upR_s, by rw [upR_at (by omega), c2 a (by omega)]; exact c1.2.1, by rw [upR_at (by omega), c2 a (by omega)]; exact c1.2.2, by rw [upR_at (by omega), c2 a (by omega)]; exact c1.1, fun b hb => ⟨?_, ?_⟩⟩
  · rw [Q5 b (by omega) (by omega), (P4 b (by omega)).1 (by omega), (P3 b (by omega)).1 (by omega), (P2 b (by omega)).1 (by omega), (P1 b (by omega)).1 (by omega)]
  · rw [upR_n (by omega), c2 b (by omega), hg1b, up2_row (by omega), (P1 b (by omega)).2]
