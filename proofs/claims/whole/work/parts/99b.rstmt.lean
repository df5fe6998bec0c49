/-! the reference's reader: statements; what a statement keeps -/
section PGS
variable {T : Tx} {p q : Nat} {d : Nat → Int} {s : Nat → Bool}
/-- a reading goes on, and keeps the row good -/
def PG (q : Nat) (res : PR) : Prop := ∀ r, res = .inl r → q ≤ r.2.2 ∧ PInv r.1
theorem pg_r {e : PE} : PG q (.inr e) := fun r hr => by cases hr
theorem pg_l {x : Nat → Int} {y : Nat → Bool} (hp : q ≤ p) (h : PInv x) : PG q (.inl (x, y, p)) := fun r hr => by cases hr; exact ⟨hp, h⟩
theorem pg_num {lo hi : Int} {k : Int → Nat → PR} (hp : q ≤ p) (h : ∀ v p2, lo ≤ v ∧ v ≤ hi → q ≤ p2 → PG q (k v p2)) : PG q (kNum T p lo hi k) := by
  have h1 := sk_ge (T := T) p
  unfold kNum
  split
  · exact pg_r
  · split
    · rename_i c; exact h _ _ c (by omega)
    · exact pg_r
theorem pg_dig {m : Nat} {k : Nat → Int → Nat → PR} (hp : q ≤ p) (h : ∀ n v p2, 1 ≤ n ∧ n ≤ m → 0 ≤ v ∧ v < pw n → q ≤ p2 → PG q (k n v p2)) : PG q (kDig T p m k) := by
  have h1 := sk_ge (T := T) p
  unfold kDig
  split
  · exact pg_r
  · split
    · exact h _ _ _ (by omega) (bv_rng (bd_of (T := T) (q := sk T p) _ (Nat.le_refl _))) (by omega)
    · exact pg_r
theorem pg_nam {k : Int → Int → Nat → PR} (hp : q ≤ p) (h : ∀ n v p2, VN n v → q ≤ p2 → PG q (k n v p2)) : PG q (kNam T p k) := by
  have h1 := sk_ge (T := T) p
  unfold kNam
  split
  · exact pg_r
  · split
    · rename_i c0 c; exact h _ _ _ (nm_parts c c0).1 (by omega)
    · exact pg_r
theorem pg_ch {r n0 : Nat} {v0 len : Int} (hP : PInv d) (hc : d 4 = (r : Int)) (hr8 : r < 8) (hn0 : 1 ≤ n0 ∧ n0 ≤ 5) (hv0 : 0 ≤ v0 ∧ v0 < pw n0) (hlen : len ≤ 6) : ∀ (f : Nat) (e2 : Nat → Int) (n p : Nat), 1 ≤ f → n ≤ 3 → q ≤ p → (∀ j, (j < 99 + 7 * r ∨ 102 + 7 * r ≤ j) → e2 j = d j) → (∀ j : Nat, j < n → 0 ≤ e2 (99 + 7 * r + j) ∧ e2 (99 + 7 * r + j) < d 3) → n + f = 4 →
    PG q (P_ch T s r (fun e c => a_route e n0 v0 len c) f e2 n p)
  | 0, _, _, _, h, _, _, _, _, _ => absurd h (by omega)
  | f + 1, e2, n, p, _, hn3, hp, he, hch, hnf => by
    rw [ch_u]
    split
    · exact pg_r
    · rename_i hn
      refine pg_nam hp fun h t p2 hvn h2 => ?_
      split
      · exact pg_r
      · rename_i hb
        have hx : 0 ≤ s_groupOf e2 h t ∧ s_groupOf e2 h t < d 3 := by
          have := s_groupOf_r (d := e2) (h := h) (t := t) (fun z => hb (Or.inl z))
          rw [he 3 (by omega)] at this
          exact this
        have he' : ∀ j, (j < 99 + 7 * r ∨ 102 + 7 * r ≤ j) → ud e2 (99 + 7 * r + n) (s_groupOf e2 h t) j = d j := fun j hj => by rw [ud_n (by omega)]; exact he j hj
        have hch' : ∀ j : Nat, j < n + 1 → 0 ≤ ud e2 (99 + 7 * r + n) (s_groupOf e2 h t) (99 + 7 * r + j) ∧ ud e2 (99 + 7 * r + n) (s_groupOf e2 h t) (99 + 7 * r + j) < d 3 := fun j hj => by
          by_cases z : j = n
          · subst z; rw [ud_s]; exact hx
          · rw [ud_n (by omega)]; exact hch j (by omega)
        split
        · exact pg_ch hP hc hr8 hn0 hv0 hlen f _ (n + 1) p2 (by omega) (by omega) h2 he' hch' (by omega)
        · exact pg_l h2 (pinv_route hc hr8 hn0 hv0 hlen ⟨by omega, by omega⟩ he' hch' hP)
theorem pg_word (hP : PInv d) : PG q (P_word T d s q) := by
  have hbb := hP.1
  have hb2 := hbb.2.2.1
  have hb3 := hbb.2.2.2.1
  have hb4 := hbb.2.2.2.2.1
  have hb5 := hbb.2.2.2.2.2.1
  have hru : ∀ i L, i < 3 → PG q (P_rule T q d s (q + L) i) := fun i L hi => by
    unfold P_rule
    split
    · exact pg_r
    · exact pg_num (by omega) fun v p2 hv h2 => pg_l h2 (pinv_rule (q := 19 + i) (by omega) hv.1 hv.2 hP)
  unfold P_word
  split
  · unfold P_line
    split
    · exact pg_r
    · obtain ⟨c, hc⟩ := Int.eq_ofNat_of_zero_le hb2.1
      exact pg_dig (by omega) fun n v p2 hn hv h2 => by
        split
        · exact pg_l h2 (pinv_line hc (by omega) hn hv hP)
        · exact pg_r
  · split
    · unfold P_group
      split
      · exact pg_r
      · obtain ⟨c, hc⟩ := Int.eq_ofNat_of_zero_le hb3.1
        exact pg_nam (by omega) fun h t p2 hvn h2 => by
          split
          · exact pg_num h2 fun k p3 hk h3 => pg_num h3 fun b p4 hb h4 => pg_l h4 (pinv_group hc (by omega) hvn hk hb.1 hP)
          · exact pg_r
    · split
      · unfold P_route
        split
        · exact pg_r
        · obtain ⟨c, hc⟩ := Int.eq_ofNat_of_zero_le hb4.1
          exact pg_dig (by omega) fun n v p2 hn hv h2 => by
            split
            · refine pg_num h2 fun len p3 hl h3 => ?_
              rw [hc, Int.toNat_natCast]
              exact pg_ch hP hc (by omega) hn hv hl.2 4 d 0 p3 (by omega) (by omega) h3 (fun _ _ => rfl) (fun j hj => absurd hj (Nat.not_lt_zero j)) rfl
            · exact pg_r
      · split
        · unfold P_call
          split
          · exact pg_r
          · split
            · exact pg_r
            · split
              · exact pg_r
              · rename_i hx
                obtain ⟨c, hc⟩ := Int.eq_ofNat_of_zero_le hb5.1
                have h9 := sk_ge (T := T) (q + 4)
                exact pg_dig (by omega) fun m v p2 hm hv h2 => pg_num h2 fun t p3 ht h3 => pg_num h3 fun cm p4 hcm h4 => pg_l h4 (pinv_call hc (by omega) (s_lineOf_r (fun z => hx (Or.inr z))) ⟨by omega, by omega⟩ (by rw [Int.toNat_natCast]; exact hv) ht hP)
        · split
          · exact hru 0 5 (by omega)
          · split
            · exact hru 1 7 (by omega)
            · split
              · exact hru 2 4 (by omega)
              · exact pg_r
theorem stmt_go {r : (Nat → Int) × (Nat → Bool) × Nat} (hP : PInv d) (h : P_stmt T d s p = .inl r) : p < r.2.2 ∧ PInv r.1 := by
  have h1 := sk_ge (T := T) p
  have h2 := pg_word (T := T) (q := sk T p) (s := s) hP
  unfold P_stmt at h
  cases hw : P_word T d s (sk T p) with
  | inr e => rw [hw] at h; cases h
  | inl x =>
    rw [hw] at h
    have h3 := h2 x hw
    have h4 := sk_ge (T := T) x.2.2
    dsimp only at h
    unfold kSem at h
    split at h
    · cases h; exact ⟨by show p < sk T x.2.2 + 1; omega, h3.2⟩
    · cases h
theorem stmt_sk {p2 : Nat} (h : sk T p2 = sk T p) : P_stmt T d s p2 = P_stmt T d s p := by unfold P_stmt; rw [h]
end PGS
theorem RP2.st {g g2 : Mem} {m : Nat} {T : Tx} {W : PR} (h : RP2 g m T W g2) : ∃ st, RS g2 m T st ∧ ∀ g3, FM g2 g3 m → RS g3 m T (expS T 59 st) → RP2 g m T (semi T W) g3 := by
  obtain ⟨h1, h2⟩ := h
  cases W with
  | inr e => exact ⟨.inr e, h2, fun g3 hF hS => ⟨h1.tr hF.fd, hS⟩⟩
  | inl r =>
    obtain ⟨⟨p, hp, hG⟩, hd, hm⟩ := h2
    refine ⟨.inl p, hG, fun g3 hF hS => ⟨h1.tr hF.fd, ?_⟩⟩
    unfold semi kSem
    dsimp only
    by_cases c : byT T (sk T r.2.2) = 59
    · rw [if_pos c]
      have e1 : expS T 59 (.inl p) = .inl (sk T p + 1) := if_pos (by rw [hp]; exact c)
      rw [e1] at hS
      refine ⟨⟨_, by rw [hp], hS⟩, ?_, hm.fm hF⟩
      exact (hF.1 _ (by omega)).trans hd
    · rw [if_neg c]
      have e1 : expS T 59 (.inl p) = .inr (-2, sk T p) := if_neg (by rw [hp]; exact c)
      rw [e1, hp] at hS
      exact hS
theorem stmt_semi {T : Tx} {d : Nat → Int} {s : Nat → Bool} {p : Nat} : P_stmt T d s p = semi T (P_word T d s (sk T p)) := by
  unfold P_stmt semi
  cases P_word T d s (sk T p) <;> rfl

theorem RP2.pre {g g1 g2 : Mem} {m : Nat} {T : Tx} {res : PR} (hF : FM g g1 m) (h : RP2 g1 m T res g2) : RP2 g m T res g2 := ⟨hF.fd.tr h.1, h.2⟩

set_option linter.constructorNameAsVariable false in
set_option maxRecDepth 20000 in
theorem rp_statement {w : Wd} {sh : Shp} {g : Mem} {m : Nat} (hM : MdS sh.1 m) {T : Tx} {d : Nat → Int} {s : Nat → Bool} {p : Nat} (h0 : RG g m T p) (hd : g (m + 3) = d) (hP : PInv d) (hS : SM g m s)  : CT w mX10_statement [.ref (m)] sh g (vQ sh (RP2 g m T (P_stmt T d s p))) := by
  have h7 := h0.1.1
  have hsk2 := sk_le h0.2.2.1
  refine j_entry (by decide) rfl (Nat.le_of_ble_eq_true rfl) (fun h => by cases h) rfl ?_
  show J w mX10_statement 0 [(0, .ref (m))] [] sh g 0 0 _
  refine j_aload_n 1 0 dX10_statement_0 rfl rfl ?_
  refine j_callV 4 (As := []) (kc2 := 0) (ks2 := 0) dX10_statement_1 rfl mvX10_ahead lk_X10_65 hM.md rfl ⟨Nat.le_of_ble_eq_true rfl, rfl⟩ rfl rfl (Nat.le_of_ble_eq_true rfl) ⟨Nat.le_of_ble_eq_true rfl, Nat.le_of_ble_eq_true rfl⟩ ⟨Nat.le_of_ble_eq_true rfl, Nat.le_of_ble_eq_true rfl⟩ (rp_ahead hM h0.1 h0.2.1 h0.2.2.1) x_d (k_d1 ?_)
  refine j_mn (fun g0 hg0 => ?_)
  have S0 : RG g0 m T (sk T p) := by rw [hg0]; exact h0.mv hsk2
  have FZ0 : FM g g0 m := by rw [hg0]; exact FM.rf.up (by decide)
  refine j_pop 5 dX10_statement_4 rfl rfl ?_
  refine j_aload_n 6 0 dX10_statement_5 rfl rfl ?_
  refine j_geti 9 dX10_statement_6 rfl fl_X10_44 hM.md rfl rfl (fun r_6 => ?_)
  refine j_top (y := ((sk T p : Nat) : Int)) (S0.2.1) ?_
  refine j_istore_n 10 (L2 := [(1, .int (i32 (((sk T p : Nat) : Int)))), (0, .ref (m))]) dX10_statement_9 rfl rfl (Nat.le_of_ble_eq_true rfl) rfl ?_
  refine j_aload_n 11 1 dX10_statement_10 rfl rfl ?_
  refine j_ldcS 13 (i := 1) dX10_statement_11 rfl (tx := "line") (by decide) ?_
  refine j_callV 16 (As := [.ref (w.2.1 (100 + 1))]) (kc2 := 0) (ks2 := 0) dX10_statement_13 rfl mvX10_takeWord lk_X10_141 hM.md rfl ⟨Nat.le_of_ble_eq_true rfl, rfl⟩ rfl rfl (Nat.le_of_ble_eq_true rfl) ⟨Nat.le_of_ble_eq_true rfl, Nat.le_of_ble_eq_true rfl⟩ ⟨Nat.le_of_ble_eq_true rfl, Nat.le_of_ble_eq_true rfl⟩ (rp_takeWord hM S0 (by decide)) x_d (k_d1 ?_)
  refine j_mn (fun g1 hg1 => ?_)
  have FZ1 : FM g g1 m := by rw [hg1]; exact FZ0.up (by decide)
  rcases (Bool.eq_false_or_eq_true (wdB T (sk T p) 1)).symm with w1 | w1
  ·
    refine j_top (y := 0) (by rw [sk_sk, w1]; rfl) ?_
    have S1 : RG g1 m T (sk T p) := by rw [hg1, show wdS T (sk T p) 1 = (sk T p) from by unfold wdS; rw [sk_sk, w1]; rfl]; exact S0.mv hsk2
    refine j_if_eq 19 27 dX10_statement_16 rfl rfl (r32 (by decide) (by decide)) (fun c_16 => ?_) (fun c_16 => absurd rfl c_16)
    refine j_aload_n 28 1 dX10_statement_27 rfl rfl ?_
    refine j_ldcS 30 (i := 2) dX10_statement_28 rfl (tx := "group") (by decide) ?_
    refine j_callV 33 (As := [.ref (w.2.1 (100 + 2))]) (kc2 := 0) (ks2 := 0) dX10_statement_30 rfl mvX10_takeWord lk_X10_141 hM.md rfl ⟨Nat.le_of_ble_eq_true rfl, rfl⟩ rfl rfl (Nat.le_of_ble_eq_true rfl) ⟨Nat.le_of_ble_eq_true rfl, Nat.le_of_ble_eq_true rfl⟩ ⟨Nat.le_of_ble_eq_true rfl, Nat.le_of_ble_eq_true rfl⟩ (rp_takeWord hM S1 (by decide)) x_d (k_d1 ?_)
    refine j_mn (fun g2 hg2 => ?_)
    have FZ2 : FM g g2 m := by rw [hg2]; exact FZ1.up (by decide)
    rcases (Bool.eq_false_or_eq_true (wdB T (sk T p) 2)).symm with w2 | w2
    ·
      refine j_top (y := 0) (by rw [sk_sk, w2]; rfl) ?_
      have S2 : RG g2 m T (sk T p) := by rw [hg2, show wdS T (sk T p) 2 = (sk T p) from by unfold wdS; rw [sk_sk, w2]; rfl]; exact S1.mv hsk2
      refine j_if_eq 36 44 dX10_statement_33 rfl rfl (r32 (by decide) (by decide)) (fun c_33 => ?_) (fun c_33 => absurd rfl c_33)
      refine j_aload_n 45 1 dX10_statement_44 rfl rfl ?_
      refine j_ldcS 47 (i := 3) dX10_statement_45 rfl (tx := "route") (by decide) ?_
      refine j_callV 50 (As := [.ref (w.2.1 (100 + 3))]) (kc2 := 0) (ks2 := 0) dX10_statement_47 rfl mvX10_takeWord lk_X10_141 hM.md rfl ⟨Nat.le_of_ble_eq_true rfl, rfl⟩ rfl rfl (Nat.le_of_ble_eq_true rfl) ⟨Nat.le_of_ble_eq_true rfl, Nat.le_of_ble_eq_true rfl⟩ ⟨Nat.le_of_ble_eq_true rfl, Nat.le_of_ble_eq_true rfl⟩ (rp_takeWord hM S2 (by decide)) x_d (k_d1 ?_)
      refine j_mn (fun g3 hg3 => ?_)
      have FZ3 : FM g g3 m := by rw [hg3]; exact FZ2.up (by decide)
      rcases (Bool.eq_false_or_eq_true (wdB T (sk T p) 3)).symm with w3 | w3
      ·
        refine j_top (y := 0) (by rw [sk_sk, w3]; rfl) ?_
        have S3 : RG g3 m T (sk T p) := by rw [hg3, show wdS T (sk T p) 3 = (sk T p) from by unfold wdS; rw [sk_sk, w3]; rfl]; exact S2.mv hsk2
        refine j_if_eq 53 61 dX10_statement_50 rfl rfl (r32 (by decide) (by decide)) (fun c_50 => ?_) (fun c_50 => absurd rfl c_50)
        refine j_aload_n 62 1 dX10_statement_61 rfl rfl ?_
        refine j_ldcS 64 (i := 4) dX10_statement_62 rfl (tx := "call") (by decide) ?_
        refine j_callV 67 (As := [.ref (w.2.1 (100 + 4))]) (kc2 := 0) (ks2 := 0) dX10_statement_64 rfl mvX10_takeWord lk_X10_141 hM.md rfl ⟨Nat.le_of_ble_eq_true rfl, rfl⟩ rfl rfl (Nat.le_of_ble_eq_true rfl) ⟨Nat.le_of_ble_eq_true rfl, Nat.le_of_ble_eq_true rfl⟩ ⟨Nat.le_of_ble_eq_true rfl, Nat.le_of_ble_eq_true rfl⟩ (rp_takeWord hM S3 (by decide)) x_d (k_d1 ?_)
        refine j_mn (fun g4 hg4 => ?_)
        have FZ4 : FM g g4 m := by rw [hg4]; exact FZ3.up (by decide)
        rcases (Bool.eq_false_or_eq_true (wdB T (sk T p) 4)).symm with w4 | w4
        ·
          refine j_top (y := 0) (by rw [sk_sk, w4]; rfl) ?_
          have S4 : RG g4 m T (sk T p) := by rw [hg4, show wdS T (sk T p) 4 = (sk T p) from by unfold wdS; rw [sk_sk, w4]; rfl]; exact S3.mv hsk2
          refine j_if_eq 70 78 dX10_statement_67 rfl rfl (r32 (by decide) (by decide)) (fun c_67 => ?_) (fun c_67 => absurd rfl c_67)
          refine j_aload_n 79 1 dX10_statement_78 rfl rfl ?_
          refine j_ldcS 81 (i := 5) dX10_statement_79 rfl (tx := "guard") (by decide) ?_
          refine j_callV 84 (As := [.ref (w.2.1 (100 + 5))]) (kc2 := 0) (ks2 := 0) dX10_statement_81 rfl mvX10_takeWord lk_X10_141 hM.md rfl ⟨Nat.le_of_ble_eq_true rfl, rfl⟩ rfl rfl (Nat.le_of_ble_eq_true rfl) ⟨Nat.le_of_ble_eq_true rfl, Nat.le_of_ble_eq_true rfl⟩ ⟨Nat.le_of_ble_eq_true rfl, Nat.le_of_ble_eq_true rfl⟩ (rp_takeWord hM S4 (by decide)) x_d (k_d1 ?_)
          refine j_mn (fun g5 hg5 => ?_)
          have FZ5 : FM g g5 m := by rw [hg5]; exact FZ4.up (by decide)
          rcases (Bool.eq_false_or_eq_true (wdB T (sk T p) 5)).symm with w5 | w5
          ·
            refine j_top (y := 0) (by rw [sk_sk, w5]; rfl) ?_
            have S5 : RG g5 m T (sk T p) := by rw [hg5, show wdS T (sk T p) 5 = (sk T p) from by unfold wdS; rw [sk_sk, w5]; rfl]; exact S4.mv hsk2
            refine j_if_eq 87 100 dX10_statement_84 rfl rfl (r32 (by decide) (by decide)) (fun c_84 => ?_) (fun c_84 => absurd rfl c_84)
            refine j_aload_n 101 1 dX10_statement_100 rfl rfl ?_
            refine j_ldcS 103 (i := 6) dX10_statement_101 rfl (tx := "timeout") (by decide) ?_
            refine j_callV 106 (As := [.ref (w.2.1 (100 + 6))]) (kc2 := 0) (ks2 := 0) dX10_statement_103 rfl mvX10_takeWord lk_X10_141 hM.md rfl ⟨Nat.le_of_ble_eq_true rfl, rfl⟩ rfl rfl (Nat.le_of_ble_eq_true rfl) ⟨Nat.le_of_ble_eq_true rfl, Nat.le_of_ble_eq_true rfl⟩ ⟨Nat.le_of_ble_eq_true rfl, Nat.le_of_ble_eq_true rfl⟩ (rp_takeWord hM S5 (by decide)) x_d (k_d1 ?_)
            refine j_mn (fun g6 hg6 => ?_)
            have FZ6 : FM g g6 m := by rw [hg6]; exact FZ5.up (by decide)
            rcases (Bool.eq_false_or_eq_true (wdB T (sk T p) 6)).symm with w6 | w6
            ·
              refine j_top (y := 0) (by rw [sk_sk, w6]; rfl) ?_
              have S6 : RG g6 m T (sk T p) := by rw [hg6, show wdS T (sk T p) 6 = (sk T p) from by unfold wdS; rw [sk_sk, w6]; rfl]; exact S5.mv hsk2
              refine j_if_eq 109 122 dX10_statement_106 rfl rfl (r32 (by decide) (by decide)) (fun c_106 => ?_) (fun c_106 => absurd rfl c_106)
              refine j_aload_n 123 1 dX10_statement_122 rfl rfl ?_
              refine j_ldcS 125 (i := 7) dX10_statement_123 rfl (tx := "work") (by decide) ?_
              refine j_callV 128 (As := [.ref (w.2.1 (100 + 7))]) (kc2 := 0) (ks2 := 0) dX10_statement_125 rfl mvX10_takeWord lk_X10_141 hM.md rfl ⟨Nat.le_of_ble_eq_true rfl, rfl⟩ rfl rfl (Nat.le_of_ble_eq_true rfl) ⟨Nat.le_of_ble_eq_true rfl, Nat.le_of_ble_eq_true rfl⟩ ⟨Nat.le_of_ble_eq_true rfl, Nat.le_of_ble_eq_true rfl⟩ (rp_takeWord hM S6 (by decide)) x_d (k_d1 ?_)
              refine j_mn (fun g7 hg7 => ?_)
              have FZ7 : FM g g7 m := by rw [hg7]; exact FZ6.up (by decide)
              rcases (Bool.eq_false_or_eq_true (wdB T (sk T p) 7)).symm with w7 | w7
              ·
                refine j_top (y := 0) (by rw [sk_sk, w7]; rfl) ?_
                have S7 : RG g7 m T (sk T p) := by rw [hg7, show wdS T (sk T p) 7 = (sk T p) from by unfold wdS; rw [sk_sk, w7]; rfl]; exact S6.mv hsk2
                refine j_if_eq 131 144 dX10_statement_128 rfl rfl (r32 (by decide) (by decide)) (fun c_128 => ?_) (fun c_128 => absurd rfl c_128)
                refine j_aload_n 145 1 dX10_statement_144 rfl rfl ?_
                refine j_bipush 147 dX10_statement_145 rfl (by decide) ?_
                refine j_iload_n 148 0 dX10_statement_147 rfl rfl ?_
                refine j_callV 151 (As := [.int (i32 (-2)), .int (i32 (((sk T p : Nat) : Int)))]) (kc2 := 0) (ks2 := 0) dX10_statement_148 rfl mvX10_report lk_X10_78 hM.md rfl ⟨Nat.le_of_ble_eq_true rfl, rfl⟩ rfl rfl (Nat.le_of_ble_eq_true rfl) ⟨Nat.le_of_ble_eq_true rfl, Nat.le_of_ble_eq_true rfl⟩ ⟨Nat.le_of_ble_eq_true rfl, Nat.le_of_ble_eq_true rfl⟩ (rp_report0 hM S7.2.2.2.1 (r32 (by decide) (by decide)) (r32 (by omega) (by omega))) x_d (k_d0 ?_)
                refine j_mn (fun g8 hg8 => ?_)
                have hW : RP2 g m T (P_word T d s (sk T p)) g8 := by
                                  rw [show P_word T d s (sk T p) = .inr (-2, (sk T p)) from by unfold P_word; rw [if_neg (show ¬ wdB T (sk T p) 1 = true by rw [w1]; decide), if_neg (show ¬ wdB T (sk T p) 2 = true by rw [w2]; decide), if_neg (show ¬ wdB T (sk T p) 3 = true by rw [w3]; decide), if_neg (show ¬ wdB T (sk T p) 4 = true by rw [w4]; decide), if_neg (show ¬ wdB T (sk T p) 5 = true by rw [w5]; decide), if_neg (show ¬ wdB T (sk T p) 6 = true by rw [w6]; decide), if_neg (show ¬ wdB T (sk T p) 7 = true by rw [w7]; decide)]]
                                  rw [hg8]
                                  exact ⟨((FZ7.up (by decide)).up (by decide)).fd, S7.err (by decide)⟩
                obtain ⟨sx, hsx, hfin⟩ := hW.st
                refine j_aload_n 152 1 dX10_statement_151 rfl rfl ?_
                refine j_bipush 154 dX10_statement_152 rfl (by decide) ?_
                refine j_callV 157 (As := [.int (i32 (59))]) (kc2 := 0) (ks2 := 0) dX10_statement_154 rfl mvX10_expect lk_X10_173 hM.md rfl ⟨Nat.le_of_ble_eq_true rfl, rfl⟩ rfl rfl (Nat.le_of_ble_eq_true rfl) ⟨Nat.le_of_ble_eq_true rfl, Nat.le_of_ble_eq_true rfl⟩ ⟨Nat.le_of_ble_eq_true rfl, Nat.le_of_ble_eq_true rfl⟩ (rp_expect hM hsx) x_v (k_v fun g_154 h_154 => ?_)
                obtain ⟨FE, SE⟩ := h_154
                exact j_vret dX10_statement_157 rfl (⟨rfl, rfl, by rw [stmt_semi]; exact hfin _ FE SE⟩)
              ·
                refine j_top (y := 1) (by rw [sk_sk, w7]; rfl) ?_
                have hle := wd_end (i := 7) (by decide) w7 hsk2
                have S7 : RG g7 m T ((sk T p) + 4) := by rw [hg7, show wdS T (sk T p) 7 = (sk T p) + 4 from by unfold wdS; rw [sk_sk, w7]; rfl]; exact S6.mv hle
                refine j_if_eq 131 144 dX10_statement_128 rfl rfl (r32 (by decide) (by decide)) (fun c_128 => absurd c_128 (by decide)) (fun c_128 => ?_)
                refine j_aload_n 132 1 dX10_statement_131 rfl rfl ?_
                refine j_iconst 133 dX10_statement_132 rfl ?_
                refine j_iload_n 134 0 dX10_statement_133 rfl rfl ?_
                refine j_bipush 136 dX10_statement_134 rfl (by decide) ?_
                refine j_bipush 138 dX10_statement_136 rfl (by decide) ?_
                refine j_callV 141 (As := [.int (i32 (2)), .int (i32 (((sk T p : Nat) : Int))), .int (i32 (21)), .int (i32 (9))]) (kc2 := 0) (ks2 := 0) dX10_statement_138 rfl mvX10_readOne lk_X10_165 hM.md rfl ⟨Nat.le_of_ble_eq_true rfl, rfl⟩ rfl rfl (Nat.le_of_ble_eq_true rfl) ⟨Nat.le_of_ble_eq_true rfl, Nat.le_of_ble_eq_true rfl⟩ ⟨Nat.le_of_ble_eq_true rfl, Nat.le_of_ble_eq_true rfl⟩ (rp_readOne2 hM (st := (sk T p)) S7 ((FZ7.1 _ (by omega)).trans hd) hP (hS.fm FZ7) (by omega)) x_v (k_v fun g_138 h_138 => ?_)
                have hW : RP2 g m T (P_word T d s (sk T p)) g_138 := by
                                  rw [show P_word T d s (sk T p) = P_rule T (sk T p) d s ((sk T p) + 4) 2 from by unfold P_word; rw [if_neg (show ¬ wdB T (sk T p) 1 = true by rw [w1]; decide), if_neg (show ¬ wdB T (sk T p) 2 = true by rw [w2]; decide), if_neg (show ¬ wdB T (sk T p) 3 = true by rw [w3]; decide), if_neg (show ¬ wdB T (sk T p) 4 = true by rw [w4]; decide), if_neg (show ¬ wdB T (sk T p) 5 = true by rw [w5]; decide), if_neg (show ¬ wdB T (sk T p) 6 = true by rw [w6]; decide), if_pos w7]]
                                  exact RP2.pre FZ7 h_138.two
                refine j_goto 151 dX10_statement_141 rfl ?_
                obtain ⟨sx, hsx, hfin⟩ := hW.st
                refine j_aload_n 152 1 dX10_statement_151 rfl rfl ?_
                refine j_bipush 154 dX10_statement_152 rfl (by decide) ?_
                refine j_callV 157 (As := [.int (i32 (59))]) (kc2 := 0) (ks2 := 0) dX10_statement_154 rfl mvX10_expect lk_X10_173 hM.md rfl ⟨Nat.le_of_ble_eq_true rfl, rfl⟩ rfl rfl (Nat.le_of_ble_eq_true rfl) ⟨Nat.le_of_ble_eq_true rfl, Nat.le_of_ble_eq_true rfl⟩ ⟨Nat.le_of_ble_eq_true rfl, Nat.le_of_ble_eq_true rfl⟩ (rp_expect hM hsx) x_v (k_v fun g_154 h_154 => ?_)
                obtain ⟨FE, SE⟩ := h_154
                exact j_vret dX10_statement_157 rfl (⟨rfl, rfl, by rw [stmt_semi]; exact hfin _ FE SE⟩)
            ·
              refine j_top (y := 1) (by rw [sk_sk, w6]; rfl) ?_
              have hle := wd_end (i := 6) (by decide) w6 hsk2
              have S6 : RG g6 m T ((sk T p) + 7) := by rw [hg6, show wdS T (sk T p) 6 = (sk T p) + 7 from by unfold wdS; rw [sk_sk, w6]; rfl]; exact S5.mv hle
              refine j_if_eq 109 122 dX10_statement_106 rfl rfl (r32 (by decide) (by decide)) (fun c_106 => absurd c_106 (by decide)) (fun c_106 => ?_)
              refine j_aload_n 110 1 dX10_statement_109 rfl rfl ?_
              refine j_iconst 111 dX10_statement_110 rfl ?_
              refine j_iload_n 112 0 dX10_statement_111 rfl rfl ?_
              refine j_bipush 114 dX10_statement_112 rfl (by decide) ?_
              refine j_bipush 116 dX10_statement_114 rfl (by decide) ?_
              refine j_callV 119 (As := [.int (i32 (1)), .int (i32 (((sk T p : Nat) : Int))), .int (i32 (20)), .int (i32 (20))]) (kc2 := 0) (ks2 := 0) dX10_statement_116 rfl mvX10_readOne lk_X10_165 hM.md rfl ⟨Nat.le_of_ble_eq_true rfl, rfl⟩ rfl rfl (Nat.le_of_ble_eq_true rfl) ⟨Nat.le_of_ble_eq_true rfl, Nat.le_of_ble_eq_true rfl⟩ ⟨Nat.le_of_ble_eq_true rfl, Nat.le_of_ble_eq_true rfl⟩ (rp_readOne1 hM (st := (sk T p)) S6 ((FZ6.1 _ (by omega)).trans hd) hP (hS.fm FZ6) (by omega)) x_v (k_v fun g_116 h_116 => ?_)
              have hW : RP2 g m T (P_word T d s (sk T p)) g_116 := by
                              rw [show P_word T d s (sk T p) = P_rule T (sk T p) d s ((sk T p) + 7) 1 from by unfold P_word; rw [if_neg (show ¬ wdB T (sk T p) 1 = true by rw [w1]; decide), if_neg (show ¬ wdB T (sk T p) 2 = true by rw [w2]; decide), if_neg (show ¬ wdB T (sk T p) 3 = true by rw [w3]; decide), if_neg (show ¬ wdB T (sk T p) 4 = true by rw [w4]; decide), if_neg (show ¬ wdB T (sk T p) 5 = true by rw [w5]; decide), if_pos w6]]
                              exact RP2.pre FZ6 h_116.two
              refine j_goto 151 dX10_statement_119 rfl ?_
              obtain ⟨sx, hsx, hfin⟩ := hW.st
              refine j_aload_n 152 1 dX10_statement_151 rfl rfl ?_
              refine j_bipush 154 dX10_statement_152 rfl (by decide) ?_
              refine j_callV 157 (As := [.int (i32 (59))]) (kc2 := 0) (ks2 := 0) dX10_statement_154 rfl mvX10_expect lk_X10_173 hM.md rfl ⟨Nat.le_of_ble_eq_true rfl, rfl⟩ rfl rfl (Nat.le_of_ble_eq_true rfl) ⟨Nat.le_of_ble_eq_true rfl, Nat.le_of_ble_eq_true rfl⟩ ⟨Nat.le_of_ble_eq_true rfl, Nat.le_of_ble_eq_true rfl⟩ (rp_expect hM hsx) x_v (k_v fun g_154 h_154 => ?_)
              obtain ⟨FE, SE⟩ := h_154
              exact j_vret dX10_statement_157 rfl (⟨rfl, rfl, by rw [stmt_semi]; exact hfin _ FE SE⟩)
          ·
            refine j_top (y := 1) (by rw [sk_sk, w5]; rfl) ?_
            have hle := wd_end (i := 5) (by decide) w5 hsk2
            have S5 : RG g5 m T ((sk T p) + 5) := by rw [hg5, show wdS T (sk T p) 5 = (sk T p) + 5 from by unfold wdS; rw [sk_sk, w5]; rfl]; exact S4.mv hle
            refine j_if_eq 87 100 dX10_statement_84 rfl rfl (r32 (by decide) (by decide)) (fun c_84 => absurd c_84 (by decide)) (fun c_84 => ?_)
            refine j_aload_n 88 1 dX10_statement_87 rfl rfl ?_
            refine j_iconst 89 dX10_statement_88 rfl ?_
            refine j_iload_n 90 0 dX10_statement_89 rfl rfl ?_
            refine j_bipush 92 dX10_statement_90 rfl (by decide) ?_
            refine j_bipush 94 dX10_statement_92 rfl (by decide) ?_
            refine j_callV 97 (As := [.int (i32 (0)), .int (i32 (((sk T p : Nat) : Int))), .int (i32 (19)), .int (i32 (40))]) (kc2 := 0) (ks2 := 0) dX10_statement_94 rfl mvX10_readOne lk_X10_165 hM.md rfl ⟨Nat.le_of_ble_eq_true rfl, rfl⟩ rfl rfl (Nat.le_of_ble_eq_true rfl) ⟨Nat.le_of_ble_eq_true rfl, Nat.le_of_ble_eq_true rfl⟩ ⟨Nat.le_of_ble_eq_true rfl, Nat.le_of_ble_eq_true rfl⟩ (rp_readOne0 hM (st := (sk T p)) S5 ((FZ5.1 _ (by omega)).trans hd) hP (hS.fm FZ5) (by omega)) x_v (k_v fun g_94 h_94 => ?_)
            have hW : RP2 g m T (P_word T d s (sk T p)) g_94 := by
                          rw [show P_word T d s (sk T p) = P_rule T (sk T p) d s ((sk T p) + 5) 0 from by unfold P_word; rw [if_neg (show ¬ wdB T (sk T p) 1 = true by rw [w1]; decide), if_neg (show ¬ wdB T (sk T p) 2 = true by rw [w2]; decide), if_neg (show ¬ wdB T (sk T p) 3 = true by rw [w3]; decide), if_neg (show ¬ wdB T (sk T p) 4 = true by rw [w4]; decide), if_pos w5]]
                          exact RP2.pre FZ5 h_94.two
            refine j_goto 151 dX10_statement_97 rfl ?_
            obtain ⟨sx, hsx, hfin⟩ := hW.st
            refine j_aload_n 152 1 dX10_statement_151 rfl rfl ?_
            refine j_bipush 154 dX10_statement_152 rfl (by decide) ?_
            refine j_callV 157 (As := [.int (i32 (59))]) (kc2 := 0) (ks2 := 0) dX10_statement_154 rfl mvX10_expect lk_X10_173 hM.md rfl ⟨Nat.le_of_ble_eq_true rfl, rfl⟩ rfl rfl (Nat.le_of_ble_eq_true rfl) ⟨Nat.le_of_ble_eq_true rfl, Nat.le_of_ble_eq_true rfl⟩ ⟨Nat.le_of_ble_eq_true rfl, Nat.le_of_ble_eq_true rfl⟩ (rp_expect hM hsx) x_v (k_v fun g_154 h_154 => ?_)
            obtain ⟨FE, SE⟩ := h_154
            exact j_vret dX10_statement_157 rfl (⟨rfl, rfl, by rw [stmt_semi]; exact hfin _ FE SE⟩)
        ·
          refine j_top (y := 1) (by rw [sk_sk, w4]; rfl) ?_
          have hle := wd_end (i := 4) (by decide) w4 hsk2
          have S4 : RG g4 m T ((sk T p) + 4) := by rw [hg4, show wdS T (sk T p) 4 = (sk T p) + 4 from by unfold wdS; rw [sk_sk, w4]; rfl]; exact S3.mv hle
          refine j_if_eq 70 78 dX10_statement_67 rfl rfl (r32 (by decide) (by decide)) (fun c_67 => absurd c_67 (by decide)) (fun c_67 => ?_)
          refine j_aload_n 71 1 dX10_statement_70 rfl rfl ?_
          refine j_iload_n 72 0 dX10_statement_71 rfl rfl ?_
          refine j_callV 75 (As := [.int (i32 (((sk T p : Nat) : Int)))]) (kc2 := 0) (ks2 := 0) dX10_statement_72 rfl mvX10_readCall lk_X10_160 hM.md rfl ⟨Nat.le_of_ble_eq_true rfl, rfl⟩ rfl rfl (Nat.le_of_ble_eq_true rfl) ⟨Nat.le_of_ble_eq_true rfl, Nat.le_of_ble_eq_true rfl⟩ ⟨Nat.le_of_ble_eq_true rfl, Nat.le_of_ble_eq_true rfl⟩ (rp_readCall hM (st := (sk T p)) S4 ((FZ4.1 _ (by omega)).trans hd) hP (hS.fm FZ4) (by omega)) x_v (k_v fun g_72 h_72 => ?_)
          have hW : RP2 g m T (P_word T d s (sk T p)) g_72 := by
                      rw [show P_word T d s (sk T p) = P_call T (sk T p) d s ((sk T p) + 4) from by unfold P_word; rw [if_neg (show ¬ wdB T (sk T p) 1 = true by rw [w1]; decide), if_neg (show ¬ wdB T (sk T p) 2 = true by rw [w2]; decide), if_neg (show ¬ wdB T (sk T p) 3 = true by rw [w3]; decide), if_pos w4]]
                      exact RP2.pre FZ4 h_72.two
          refine j_goto 151 dX10_statement_75 rfl ?_
          obtain ⟨sx, hsx, hfin⟩ := hW.st
          refine j_aload_n 152 1 dX10_statement_151 rfl rfl ?_
          refine j_bipush 154 dX10_statement_152 rfl (by decide) ?_
          refine j_callV 157 (As := [.int (i32 (59))]) (kc2 := 0) (ks2 := 0) dX10_statement_154 rfl mvX10_expect lk_X10_173 hM.md rfl ⟨Nat.le_of_ble_eq_true rfl, rfl⟩ rfl rfl (Nat.le_of_ble_eq_true rfl) ⟨Nat.le_of_ble_eq_true rfl, Nat.le_of_ble_eq_true rfl⟩ ⟨Nat.le_of_ble_eq_true rfl, Nat.le_of_ble_eq_true rfl⟩ (rp_expect hM hsx) x_v (k_v fun g_154 h_154 => ?_)
          obtain ⟨FE, SE⟩ := h_154
          exact j_vret dX10_statement_157 rfl (⟨rfl, rfl, by rw [stmt_semi]; exact hfin _ FE SE⟩)
      ·
        refine j_top (y := 1) (by rw [sk_sk, w3]; rfl) ?_
        have hle := wd_end (i := 3) (by decide) w3 hsk2
        have S3 : RG g3 m T ((sk T p) + 5) := by rw [hg3, show wdS T (sk T p) 3 = (sk T p) + 5 from by unfold wdS; rw [sk_sk, w3]; rfl]; exact S2.mv hle
        refine j_if_eq 53 61 dX10_statement_50 rfl rfl (r32 (by decide) (by decide)) (fun c_50 => absurd c_50 (by decide)) (fun c_50 => ?_)
        refine j_aload_n 54 1 dX10_statement_53 rfl rfl ?_
        refine j_iload_n 55 0 dX10_statement_54 rfl rfl ?_
        refine j_callV 58 (As := [.int (i32 (((sk T p : Nat) : Int)))]) (kc2 := 0) (ks2 := 0) dX10_statement_55 rfl mvX10_readRoute lk_X10_155 hM.md rfl ⟨Nat.le_of_ble_eq_true rfl, rfl⟩ rfl rfl (Nat.le_of_ble_eq_true rfl) ⟨Nat.le_of_ble_eq_true rfl, Nat.le_of_ble_eq_true rfl⟩ ⟨Nat.le_of_ble_eq_true rfl, Nat.le_of_ble_eq_true rfl⟩ (rp_readRoute hM (st := (sk T p)) S3 ((FZ3.1 _ (by omega)).trans hd) hP (hS.fm FZ3) (by omega)) x_v (k_v fun g_55 h_55 => ?_)
        have hW : RP2 g m T (P_word T d s (sk T p)) g_55 := by
                  rw [show P_word T d s (sk T p) = P_route T (sk T p) d s ((sk T p) + 5) from by unfold P_word; rw [if_neg (show ¬ wdB T (sk T p) 1 = true by rw [w1]; decide), if_neg (show ¬ wdB T (sk T p) 2 = true by rw [w2]; decide), if_pos w3]]
                  exact RP2.pre FZ3 h_55
        refine j_goto 151 dX10_statement_58 rfl ?_
        obtain ⟨sx, hsx, hfin⟩ := hW.st
        refine j_aload_n 152 1 dX10_statement_151 rfl rfl ?_
        refine j_bipush 154 dX10_statement_152 rfl (by decide) ?_
        refine j_callV 157 (As := [.int (i32 (59))]) (kc2 := 0) (ks2 := 0) dX10_statement_154 rfl mvX10_expect lk_X10_173 hM.md rfl ⟨Nat.le_of_ble_eq_true rfl, rfl⟩ rfl rfl (Nat.le_of_ble_eq_true rfl) ⟨Nat.le_of_ble_eq_true rfl, Nat.le_of_ble_eq_true rfl⟩ ⟨Nat.le_of_ble_eq_true rfl, Nat.le_of_ble_eq_true rfl⟩ (rp_expect hM hsx) x_v (k_v fun g_154 h_154 => ?_)
        obtain ⟨FE, SE⟩ := h_154
        exact j_vret dX10_statement_157 rfl (⟨rfl, rfl, by rw [stmt_semi]; exact hfin _ FE SE⟩)
    ·
      refine j_top (y := 1) (by rw [sk_sk, w2]; rfl) ?_
      have hle := wd_end (i := 2) (by decide) w2 hsk2
      have S2 : RG g2 m T ((sk T p) + 5) := by rw [hg2, show wdS T (sk T p) 2 = (sk T p) + 5 from by unfold wdS; rw [sk_sk, w2]; rfl]; exact S1.mv hle
      refine j_if_eq 36 44 dX10_statement_33 rfl rfl (r32 (by decide) (by decide)) (fun c_33 => absurd c_33 (by decide)) (fun c_33 => ?_)
      refine j_aload_n 37 1 dX10_statement_36 rfl rfl ?_
      refine j_iload_n 38 0 dX10_statement_37 rfl rfl ?_
      refine j_callV 41 (As := [.int (i32 (((sk T p : Nat) : Int)))]) (kc2 := 0) (ks2 := 0) dX10_statement_38 rfl mvX10_readGroup lk_X10_150 hM.md rfl ⟨Nat.le_of_ble_eq_true rfl, rfl⟩ rfl rfl (Nat.le_of_ble_eq_true rfl) ⟨Nat.le_of_ble_eq_true rfl, Nat.le_of_ble_eq_true rfl⟩ ⟨Nat.le_of_ble_eq_true rfl, Nat.le_of_ble_eq_true rfl⟩ (rp_readGroup hM (st := (sk T p)) S2 ((FZ2.1 _ (by omega)).trans hd) hP (hS.fm FZ2) (by omega)) x_v (k_v fun g_38 h_38 => ?_)
      have hW : RP2 g m T (P_word T d s (sk T p)) g_38 := by
              rw [show P_word T d s (sk T p) = P_group T (sk T p) d s ((sk T p) + 5) from by unfold P_word; rw [if_neg (show ¬ wdB T (sk T p) 1 = true by rw [w1]; decide), if_pos w2]]
              exact RP2.pre FZ2 h_38.two
      refine j_goto 151 dX10_statement_41 rfl ?_
      obtain ⟨sx, hsx, hfin⟩ := hW.st
      refine j_aload_n 152 1 dX10_statement_151 rfl rfl ?_
      refine j_bipush 154 dX10_statement_152 rfl (by decide) ?_
      refine j_callV 157 (As := [.int (i32 (59))]) (kc2 := 0) (ks2 := 0) dX10_statement_154 rfl mvX10_expect lk_X10_173 hM.md rfl ⟨Nat.le_of_ble_eq_true rfl, rfl⟩ rfl rfl (Nat.le_of_ble_eq_true rfl) ⟨Nat.le_of_ble_eq_true rfl, Nat.le_of_ble_eq_true rfl⟩ ⟨Nat.le_of_ble_eq_true rfl, Nat.le_of_ble_eq_true rfl⟩ (rp_expect hM hsx) x_v (k_v fun g_154 h_154 => ?_)
      obtain ⟨FE, SE⟩ := h_154
      exact j_vret dX10_statement_157 rfl (⟨rfl, rfl, by rw [stmt_semi]; exact hfin _ FE SE⟩)
  ·
    refine j_top (y := 1) (by rw [sk_sk, w1]; rfl) ?_
    have hle := wd_end (i := 1) (by decide) w1 hsk2
    have S1 : RG g1 m T ((sk T p) + 4) := by rw [hg1, show wdS T (sk T p) 1 = (sk T p) + 4 from by unfold wdS; rw [sk_sk, w1]; rfl]; exact S0.mv hle
    refine j_if_eq 19 27 dX10_statement_16 rfl rfl (r32 (by decide) (by decide)) (fun c_16 => absurd c_16 (by decide)) (fun c_16 => ?_)
    refine j_aload_n 20 1 dX10_statement_19 rfl rfl ?_
    refine j_iload_n 21 0 dX10_statement_20 rfl rfl ?_
    refine j_callV 24 (As := [.int (i32 (((sk T p : Nat) : Int)))]) (kc2 := 0) (ks2 := 0) dX10_statement_21 rfl mvX10_readLine lk_X10_145 hM.md rfl ⟨Nat.le_of_ble_eq_true rfl, rfl⟩ rfl rfl (Nat.le_of_ble_eq_true rfl) ⟨Nat.le_of_ble_eq_true rfl, Nat.le_of_ble_eq_true rfl⟩ ⟨Nat.le_of_ble_eq_true rfl, Nat.le_of_ble_eq_true rfl⟩ (rp_readLine hM (st := (sk T p)) S1 ((FZ1.1 _ (by omega)).trans hd) hP (hS.fm FZ1) (by omega)) x_v (k_v fun g_21 h_21 => ?_)
    have hW : RP2 g m T (P_word T d s (sk T p)) g_21 := by
          rw [show P_word T d s (sk T p) = P_line T (sk T p) d s ((sk T p) + 4) from by unfold P_word; rw [if_pos w1]]
          exact RP2.pre FZ1 h_21.two
    refine j_goto 151 dX10_statement_24 rfl ?_
    obtain ⟨sx, hsx, hfin⟩ := hW.st
    refine j_aload_n 152 1 dX10_statement_151 rfl rfl ?_
    refine j_bipush 154 dX10_statement_152 rfl (by decide) ?_
    refine j_callV 157 (As := [.int (i32 (59))]) (kc2 := 0) (ks2 := 0) dX10_statement_154 rfl mvX10_expect lk_X10_173 hM.md rfl ⟨Nat.le_of_ble_eq_true rfl, rfl⟩ rfl rfl (Nat.le_of_ble_eq_true rfl) ⟨Nat.le_of_ble_eq_true rfl, Nat.le_of_ble_eq_true rfl⟩ ⟨Nat.le_of_ble_eq_true rfl, Nat.le_of_ble_eq_true rfl⟩ (rp_expect hM hsx) x_v (k_v fun g_154 h_154 => ?_)
    obtain ⟨FE, SE⟩ := h_154
    exact j_vret dX10_statement_157 rfl (⟨rfl, rfl, by rw [stmt_semi]; exact hfin _ FE SE⟩)
