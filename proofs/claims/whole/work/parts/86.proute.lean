/-! the reader of the class: routes -/
theorem rel_prefixAt {g : Mem} {e : Nat} {d : Nat → Int} (h : RelX g e d) (hb2 : RB2 d) {n : Nat} {v : Int} (h1 : 0 ≤ v) (h2 : v < pw n) : x_prefixAt g e (pw n + v) = s_prefAt d n v := fst_cong (fun i hi => by
  have h4 : g e 4 = d 4 := h.2.1.2.2.2.2.1
  rw [h4]
  by_cases hq : (i : Int) < d 4
  · obtain ⟨b1, b2, b3, b4, -⟩ := hb2.2.2.1 i hq
    rw [decide_eq_true hq, Bool.true_and, Bool.true_and, (h.2.2.2.2.1 i hq).1]
    unfold enc
    by_cases hm : d (95 + 7 * i) = (n : Int) ∧ d (96 + 7 * i) = v
    · rw [hm.1, hm.2, Int.toNat_natCast, decide_eq_true rfl, decide_eq_true rfl, decide_eq_true rfl]; rfl
    · have : ¬ pw (d (95 + 7 * i)).toNat + d (96 + 7 * i) = pw n + v := fun q => by
        obtain ⟨c1, c2⟩ := enc_inj b3 b4 h1 h2 q
        exact hm ⟨by omega, c2⟩
      rw [decide_eq_false this]
      symm
      by_cases hm1 : d (95 + 7 * i) = (n : Int)
      · rw [decide_eq_false (fun q => hm ⟨hm1, q⟩), Bool.and_false]
      · rw [decide_eq_false hm1, Bool.false_and]
  · rw [decide_eq_false hq]; rfl)

set_option maxRecDepth 20000 in
theorem c_hasPrefix {w : Wd} {sh : Shp} {g : Mem} {e : Nat} (hE : ExS sh.1 e) (hI : ExI g e) {x : Int} (hx : R32 x) : CT w mX1_hasPrefix [.ref (e), .int (i32 (x))] sh g (dQ (some (.int (i32 (b01 (decide (x_prefixAt g e x ≠ -1)))))) sh g) := by
  refine j_entry (by decide) rfl (Nat.le_of_ble_eq_true rfl) (fun h => by cases h) rfl ?_
  show J w mX1_hasPrefix 0 [(0, .ref (e)), (1, .int (i32 (x)))] [] sh g 0 0 _
  refine j_aload_n 1 0 dX1_hasPrefix_0 rfl rfl ?_
  refine j_getr 4 dX1_hasPrefix_1 rfl fl_X1_26 hE.ex rfl (fun _ _ => rfl) rfl ?_
  refine j_astore_n 5 (L2 := [(2, .ref (e + 8)), (0, .ref (e)), (1, .int (i32 (x)))]) dX1_hasPrefix_4 rfl rfl (Nat.le_of_ble_eq_true rfl) rfl ?_
  refine j_aload_n 6 0 dX1_hasPrefix_5 rfl rfl ?_
  refine j_alen 7 dX1_hasPrefix_6 rfl hE.rts (Nat.le_of_ble_eq_true rfl) rfl ?_
  refine j_top (y := 8) rfl ?_
  refine j_istore_n 8 (L2 := [(3, .int (i32 (8))), (2, .ref (e + 8)), (0, .ref (e)), (1, .int (i32 (x)))]) dX1_hasPrefix_7 rfl rfl (Nat.le_of_ble_eq_true rfl) rfl ?_
  refine j_iconst 9 dX1_hasPrefix_8 rfl ?_
  refine j_istore 11 (L2 := [(4, .int (i32 (0))), (3, .int (i32 (8))), (2, .ref (e + 8)), (0, .ref (e)), (1, .int (i32 (x)))]) dX1_hasPrefix_9 rfl (Nat.le_of_ble_eq_true rfl) rfl ?_
  suffices lp_11 : ∀ (n_11 : Nat) (k : Nat), 8 - k < n_11 → k ≤ 8 → (∀ j, j < k → (fun (i : Nat) => decide ((i : Int) < g e 4) && decide (g (e + 9 + 2 * i) 1 = x)) j = false) → J w mX1_hasPrefix 11 [(4, .int (i32 ((k : Int)))), (3, .int (i32 (8))), (2, .ref (e + 8)), (0, .ref (e)), (1, .int (i32 (x)))] [] sh g 0 0 (dQ (some (.int (i32 (b01 (decide (x_prefixAt g e x ≠ -1)))))) sh g) by
    exact lp_11 _ 0 (Nat.lt_succ_self _) (by omega) (fun j hj => absurd hj (Nat.not_lt_zero j))
  intro n_11
  induction n_11 with
  | zero => intro k h_; exact absurd h_ (Nat.not_lt_zero _)
  | succ n_11 ih_11 =>
    intro k hn_11 hk hp
    refine j_iload 13 0 dX1_hasPrefix_11 rfl rfl ?_
    refine j_iload_n 14 1 dX1_hasPrefix_13 rfl rfl ?_
    refine j_icmp_ge 17 52 dX1_hasPrefix_14 rfl rfl (r32 (by omega) (by omega)) (r32 (by decide) (by decide)) (fun c_14 => ?_) (fun c_14 => ?_)
    · refine j_iconst 53 dX1_hasPrefix_52 rfl ?_
      exact j_zret dX1_hasPrefix_53 rfl (Or.inl rfl) (q_i (by rw [show x_prefixAt g e x = -1 from fst_none (p := (fun (i : Nat) => decide ((i : Int) < g e 4) && decide (g (e + 9 + 2 * i) 1 = x))) (fun j hj => hp j (by omega))]; rfl))
    · refine j_aload_n 18 2 dX1_hasPrefix_17 rfl rfl ?_
      refine j_iload 20 0 dX1_hasPrefix_18 rfl rfl ?_
      refine j_aald 21 k dX1_hasPrefix_20 rfl hE.rts (Nat.le_of_ble_eq_true rfl) rfl rfl rfl (show k < 8 by omega) rfl ?_
      refine j_astore 23 (L2 := [(5, .ref (e + 9 + 2 * k)), (4, .int (i32 ((k : Int)))), (3, .int (i32 (8))), (2, .ref (e + 8)), (0, .ref (e)), (1, .int (i32 (x)))]) dX1_hasPrefix_21 rfl (Nat.le_of_ble_eq_true rfl) rfl ?_
      refine j_aload 25 0 dX1_hasPrefix_23 rfl rfl ?_
      refine j_geti 28 dX1_hasPrefix_25 rfl fl_X1_138 (hE.rt k (show k < 8 by omega)) rfl rfl (fun r_25 => ?_)
      refine j_top (y := (k : Int)) (hI.2.1 k (by omega)) ?_
      refine j_aload_n 29 4 dX1_hasPrefix_28 rfl rfl ?_
      refine j_geti 32 dX1_hasPrefix_29 rfl fl_X1_68 hE.ex rfl rfl (fun r_29 => ?_)
      refine j_icmp_ge 35 46 dX1_hasPrefix_32 rfl rfl (r32 (by omega) (by omega)) r_29 (fun c_32 => ?_) (fun c_32 => ?_)
      · have hq : (fun (i : Nat) => decide ((i : Int) < g e 4) && decide (g (e + 9 + 2 * i) 1 = x)) k = false := by show (decide ((k : Int) < g e 4) && _) = false; rw [decide_eq_false (by omega)]; rfl
        refine j_iinc 49 1 (y := ((k + 1 : Nat) : Int)) (L2 := [(4, .int (i32 (((k + 1 : Nat) : Int)))), (5, .ref (e + 9 + 2 * k)), (3, .int (i32 (8))), (2, .ref (e + 8)), (0, .ref (e)), (1, .int (i32 (x)))]) dX1_hasPrefix_46 rfl rfl (by omega) (Nat.le_of_ble_eq_true rfl) rfl ?_
        refine j_goto 11 dX1_hasPrefix_49 rfl ?_
        refine j_sub [0, 2, 3, 4, 5] rfl ?_
        exact ih_11 (k + 1) (by omega) (by omega) (lt_step hp hq)
      · refine j_aload 37 0 dX1_hasPrefix_35 rfl rfl ?_
        refine j_geti 40 dX1_hasPrefix_37 rfl fl_X1_139 (hE.rt k (show k < 8 by omega)) rfl rfl (fun r_37 => ?_)
        refine j_iload_n 41 5 dX1_hasPrefix_40 rfl rfl ?_
        refine j_icmp_ne 44 46 dX1_hasPrefix_41 rfl rfl r_37 hx (fun c_41 => ?_) (fun c_41 => ?_)
        · have hq : (fun (i : Nat) => decide ((i : Int) < g e 4) && decide (g (e + 9 + 2 * i) 1 = x)) k = false := by show (_ && decide (g (e + 9 + 2 * k) 1 = x)) = false; rw [decide_eq_false c_41, Bool.and_false]
          refine j_iinc 49 1 (y := ((k + 1 : Nat) : Int)) (L2 := [(4, .int (i32 (((k + 1 : Nat) : Int)))), (5, .ref (e + 9 + 2 * k)), (3, .int (i32 (8))), (2, .ref (e + 8)), (0, .ref (e)), (1, .int (i32 (x)))]) dX1_hasPrefix_46 rfl rfl (by omega) (Nat.le_of_ble_eq_true rfl) rfl ?_
          refine j_goto 11 dX1_hasPrefix_49 rfl ?_
          refine j_sub [0, 2, 3, 4, 5] rfl ?_
          exact ih_11 (k + 1) (by omega) (by omega) (lt_step hp hq)
        · refine j_iconst 45 dX1_hasPrefix_44 rfl ?_
          exact j_zret dX1_hasPrefix_45 rfl (Or.inr rfl) (q_i (by rw [show x_prefixAt g e x = (k : Int) from fst_hit (p := (fun (i : Nat) => decide ((i : Int) < g e 4) && decide (g (e + 9 + 2 * i) 1 = x))) (k := k) (by omega) hp (by show (decide ((k : Int) < g e 4) && decide (g (e + 9 + 2 * k) 1 = x)) = true; rw [decide_eq_true (by omega), decide_eq_true c_41]; rfl), decide_eq_true (by omega)]; rfl))

/-- a route is being told: it is the c-th, its digits, length, and so many choices -/
def MidR (g g0 : Mem) (e c n : Nat) (v len : Int) (d e2 : Nat → Int) (cnt : Nat) : Prop :=
  ExI g e ∧ (∀ a, a ≠ e → a ≠ e + 9 + 2 * c → a ≠ e + 10 + 2 * c → e ≤ a → a < e + 75 → g a = g0 a) ∧ (∀ j, j ≠ 4 → g e j = g0 e j) ∧ g e 4 = (c : Int) + 1 ∧ g (e + 9 + 2 * c) 0 = g0 (e + 9 + 2 * c) 0 ∧
  g (e + 9 + 2 * c) 1 = enc n v ∧ g (e + 9 + 2 * c) 2 = len ∧ g (e + 9 + 2 * c) 3 = (cnt : Int) ∧ (∀ j : Nat, j < cnt → g (e + 10 + 2 * c) j = e2 (99 + 7 * c + j)) ∧
  (∀ j, (j < 99 + 7 * c ∨ 102 + 7 * c ≤ j) → e2 j = d j) ∧ (∀ j : Nat, j < cnt → 0 ≤ e2 (99 + 7 * c + j) ∧ e2 (99 + 7 * c + j) < d 3)
def MRd (g : Mem) (R tx : Nat) (T : Tx) (s : Nat → Bool) (q : Nat) : Prop := TxR g R tx T ∧ TokR g R T q ∧ q ≤ T.2 ∧ (g R 6 = b01 (s 0) ∧ g R 7 = b01 (s 1) ∧ g R 8 = b01 (s 2)) ∧ g R 2 = 0 ∧ g R 1 = -1
/-- one choice -/
def P_c1 (T : Tx) (s : Nat → Bool) (r : Nat) (d : Nat → Int) (n p : Nat) : PR := kNam T p fun h t p2 =>
  if s_groupOf d h t = -1 ∨ chosen d r (s_groupOf d h t) n = true then .inr (-4, sk T p) else .inl (ud d (99 + 7 * r + n) (s_groupOf d h t), s, p2)
/-- choices from the n-th on, f at most; then the rest -/
def P_ch2 (T : Tx) (s : Nat → Bool) (r : Nat) (fin : (Nat → Int) → Nat → (Nat → Int)) : Nat → (Nat → Int) → Nat → Nat → PR
  | 0, d, n, p => .inl (fin d n, s, p)
  | f + 1, d, n, p => match P_c1 T s r d n p with
    | .inr e => .inr e
    | .inl x => if isL (byT T (sk T x.2.2)) = true then P_ch2 T s r fin f x.1 (n + 1) x.2.2 else .inl (fin x.1 (n + 1), s, x.2.2)
def P_route2 (T : Tx) (st : Nat) (d : Nat → Int) (s : Nat → Bool) (p : Nat) : PR :=
  if 8 ≤ d 4 then .inr (-5, st) else kDig T p 5 fun n v p2 => if s_prefAt d n v = -1 then kNum T p2 n 6 fun len p3 => P_ch2 T s (d 4).toNat (fun e c => a_route e n v len c) 3 d 0 p3 else .inr (-4, sk T p)
/-- a semicolon behind a statement -/
def semi (T : Tx) : PR → PR
  | .inr e => .inr e
  | .inl r => kSem T r.2.2 fun p3 => .inl (r.1, r.2.1, p3)
theorem ch_semi {T : Tx} {s : Nat → Bool} {r : Nat} {fin : (Nat → Int) → Nat → (Nat → Int)} : ∀ (f : Nat) (d : Nat → Int) (n p : Nat), n + f = 3 → (f = 0 → isL (byT T (sk T p)) = true) → semi T (P_ch T s r fin (f + 1) d n p) = semi T (P_ch2 T s r fin f d n p)
  | 0, d, n, p, h, h2 => by
    have hl := h2 rfl
    have e1 : P_ch T s r fin 1 d n p = .inr (-2, sk T p) := if_pos (by omega)
    rw [e1]
    show _ = kSem T p _
    unfold kSem
    rw [if_neg (fun z => by rw [z] at hl; cases hl)]
    rfl
  | f + 1, d, n, p, h, h2 => by
    have e1 : P_ch T s r fin (f + 1 + 1) d n p = kNam T p fun h t p2 => if s_groupOf d h t = -1 ∨ chosen d r (s_groupOf d h t) n = true then .inr (-4, sk T p)
      else if isL (byT T (sk T p2)) = true then P_ch T s r fin (f + 1) (ud d (99 + 7 * r + n) (s_groupOf d h t)) (n + 1) p2
      else .inl (fin (ud d (99 + 7 * r + n) (s_groupOf d h t)) (n + 1), s, p2) := if_neg (by omega)
    rw [e1]
    show semi T (kNam T p _) = semi T (match P_c1 T s r d n p with | .inr e => .inr e | .inl x => if isL (byT T (sk T x.2.2)) = true then P_ch2 T s r fin f x.1 (n + 1) x.2.2 else .inl (fin x.1 (n + 1), s, x.2.2))
    unfold P_c1 kNam
    by_cases c1 : ln T (sk T p) = 0
    · rw [if_pos c1, if_pos c1]
    · rw [if_neg c1, if_neg c1]
      by_cases c2 : ln T (sk T p) ≤ 8
      · rw [if_pos c2, if_pos c2]
        by_cases c3 : s_groupOf d (nmH T (sk T p)) (nmT T (sk T p)) = -1 ∨ chosen d r (s_groupOf d (nmH T (sk T p)) (nmT T (sk T p))) n = true
        · rw [if_pos c3, if_pos c3]
        · rw [if_neg c3, if_neg c3]
          show semi T (if _ then _ else _) = semi T (if isL (byT T (sk T (sk T p + ln T (sk T p)))) = true then _ else _)
          by_cases c4 : isL (byT T (sk T (sk T p + ln T (sk T p)))) = true
          · rw [if_pos c4, if_pos c4]
            exact ch_semi f _ (n + 1) _ (by omega) (fun _ => c4)
          · rw [if_neg c4, if_neg c4]
      · rw [if_neg c2, if_neg c2]
theorem route_semi {T : Tx} {st : Nat} {d : Nat → Int} {s : Nat → Bool} {p : Nat} : semi T (P_route T st d s p) = semi T (P_route2 T st d s p) := by
  unfold P_route P_route2
  by_cases c0 : 8 ≤ d 4
  · rw [if_pos c0, if_pos c0]
  · rw [if_neg c0, if_neg c0]
    unfold kDig
    by_cases c1 : dn T (sk T p) = 0
    · rw [if_pos c1, if_pos c1]
    · rw [if_neg c1, if_neg c1]
      by_cases c2 : dn T (sk T p) ≤ 5
      · rw [if_pos c2, if_pos c2]
        by_cases c3 : s_prefAt d (dn T (sk T p)) (bv (fT T (sk T p)) (dn T (sk T p))) = -1
        · rw [if_pos c3, if_pos c3]
          unfold kNum
          by_cases c4 : dn T (sk T (sk T p + dn T (sk T p))) = 0
          · rw [if_pos c4, if_pos c4]
          · rw [if_neg c4, if_neg c4]
            split
            · exact ch_semi 3 _ 0 _ rfl (fun h => by cases h)
            · rfl
        · rw [if_neg c3, if_neg c3]
      · rw [if_neg c2, if_neg c2]
/-- what the reading of a choice comes to -/
def CPm (g g0 : Mem) (R tx : Nat) (T : Tx) (c n : Nat) (v len : Int) (d : Nat → Int) (cnt : Nat) (res : PR) : Int → Mem → Prop := fun z g2 => FrR g g2 R ∧ match res with
  | .inl r => z = 1 ∧ MRd g2 R tx T r.2.1 (sk T r.2.2) ∧ MidR g2 g0 (R + 1) c n v len d r.1 (cnt + 1)
  | .inr e => z = 0 ∧ CBad g2 R e.1 e.2
section EXU
variable {g : Mem} {e c k a : Nat} {x : Int}
theorem ExI.ch (h : ExI g e) (hc : c < 8) : ExI (up2 g (e + 10 + 2 * c) k x) e :=
  ⟨fun i hi => by rw [up2_a (by omega)]; exact h.1 i hi, fun i hi => by rw [up2_a (by omega)]; exact h.2.1 i hi, fun i hi => by rw [up2_a (by omega)]; exact h.2.2.1 i hi, fun i hi => by rw [up2_a (by omega)]; exact h.2.2.2.1 i hi, fun i hi => by rw [up2_a (by omega)]; exact h.2.2.2.2 i hi⟩
theorem ExI.k (h : ExI g e) (hk : 0 ≠ k) : ExI (up2 g a k x) e := h.same (fun _ _ _ => up2_k hk)
end EXU
section MRS
variable {g g1 g2 g0 : Mem} {R tx q p n m c cnt : Nat} {T : Tx} {d e2 : Nat → Int} {s : Nat → Bool} {v len : Int} {res : PR}
theorem MRd.adv (H : MRd g R tx T s q) (htx : tx < R ∨ R + 76 ≤ tx) (hz : szT T q = m) : MRd (advM g R T (q + m)) R tx T s (sk T (q + m)) := by
  obtain ⟨h1, h2, h3, h6, h7, h8⟩ := H
  have hsz := szT_le h1.2.2.2 h3
  refine ⟨tokM_X h1 (by omega), adv_tok, sk_le (by omega), ?_, ?_, ?_⟩
  · unfold advM; rw [tokM_at, tokM_at, tokM_at]; exact h6
  · unfold advM; rw [tokM_at]; exact h7
  · unfold advM; rw [tokM_at]; exact h8
theorem MRd.upd (H : MRd g R tx T s q) (h1 : ∀ j, g2 R j = g R j) (ht : g2 tx = g tx) : MRd g2 R tx T s q := by
  obtain ⟨a1, a2, a3, a6, a7, a8⟩ := H
  exact ⟨⟨a1.1, by rw [h1]; exact a1.2.1, fun k hk => by rw [ht]; exact a1.2.2.1 k hk, a1.2.2.2⟩, a2.same (fun j _ => h1 j), a3, by rw [h1, h1, h1]; exact a6, by rw [h1]; exact a7, by rw [h1]; exact a8⟩
theorem CRd.mrd (H : CRd g R tx T d s q) : MRd g R tx T s q := ⟨H.1, H.2.1, H.2.2.1, H.2.2.2.2.2.1, H.2.2.2.2.2.2.1, H.2.2.2.2.2.2.2⟩
theorem MRd.crd (H : MRd g R tx T s q) (h1 : RelX g (R + 1) d) (h2 : PInv d) : CRd g R tx T d s q := ⟨H.1, H.2.1, H.2.2.1, h1, h2, H.2.2.2.1, H.2.2.2.2.1, H.2.2.2.2.2⟩
theorem MidR.rows (hc8 : c < 8) (H : MidR g g0 (R + 1) c n v len d e2 cnt) (h : ∀ a, R + 1 ≤ a → a < R + 76 → g2 a = g a) : MidR g2 g0 (R + 1) c n v len d e2 cnt := by
  obtain ⟨a1, a2, a3, a4, a5, a6, a7, a8, a9, a10, a11⟩ := H
  refine ⟨a1.same (fun a h1 h2 => h a h1 (by omega)), fun a z1 z2 z3 z4 z5 => (h a z4 (by omega)).trans (a2 a z1 z2 z3 z4 z5), fun j hj => by rw [h _ (by omega) (by omega)]; exact a3 j hj, by rw [h _ (by omega) (by omega)]; exact a4, by rw [h _ (by omega) (by omega)]; exact a5, by rw [h _ (by omega) (by omega)]; exact a6, by rw [h _ (by omega) (by omega)]; exact a7, by rw [h _ (by omega) (by omega)]; exact a8, fun j hj => by rw [h _ (by omega) (by omega)]; exact a9 j hj, a10, a11⟩
theorem MidR.fin (hc : d 4 = (c : Int)) (hc8 : c < 8) (hn : 1 ≤ n ∧ n ≤ 5) (hv : 0 ≤ v ∧ v < pw n) (hlen : len ≤ 6) (hcnt : 1 ≤ cnt ∧ cnt ≤ 3) (hR0 : RelX g0 (R + 1) d) (hP : PInv d) (H : MidR g g0 (R + 1) c n v len d e2 cnt) : RelX g (R + 1) (a_route e2 n v len cnt) ∧ PInv (a_route e2 n v len cnt) := by
  obtain ⟨a1, a2, a3, a4, a5, a6, a7, a8, a9, a10, a11⟩ := H
  exact ⟨rel_route2 hc hc8 hn hv hlen hcnt a10 a11 a2 a3 a4 a5 a6 a7 a8 a9 hR0 hP, pinv_route hc hc8 hn hv hlen hcnt a10 a11 hP⟩
theorem MidR.grp (hc8 : c < 8) (hR0 : RelX g0 (R + 1) d) (hP : PInv d) (H : MidR g g0 (R + 1) c n v len d e2 cnt) {hh t : Int} (hv : VN hh t) : x_groupNamed g (R + 1) (nm27 hh t) = s_groupOf e2 hh t := by
  obtain ⟨a1, a2, a3, a4, a5, a6, a7, a8, a9, a10, a11⟩ := H
  have e1 : x_groupNamed g (R + 1) (nm27 hh t) = x_groupNamed g0 (R + 1) (nm27 hh t) := fst_cong (fun k hk => by rw [a3 3 (by decide), a2 (R + 1 + 3 + k) (by omega) (by omega) (by omega) (by omega) (by omega)])
  rw [e1, rel_groupNamed hR0 hP hv]
  exact fst_cong (fun k hk => by rw [a10 3 (by omega), a10 (57 + 9 * k) (by omega), a10 (58 + 9 * k) (by omega)])
theorem MidR.chosen (H : MidR g g0 (R + 1) c n v len d e2 cnt) (x : Int) : ∀ k, k ≤ cnt → hasC (g (R + 1 + 10 + 2 * c)) x k = chosen e2 c x k
  | 0, _ => rfl
  | k + 1, h => by
    show (hasC _ x k || decide (g (R + 1 + 10 + 2 * c) k = x)) = (chosen e2 c x k || decide (e2 (99 + 7 * c + k) = x))
    rw [MidR.chosen H x k (by omega), H.2.2.2.2.2.2.2.2.1 k (by omega)]
theorem MidR.add (hc8 : c < 8) (H : MidR g g0 (R + 1) c n v len d e2 cnt) (hcnt : cnt < 3) {x : Int} (hx : 0 ≤ x ∧ x < d 3) : MidR (up2 (up2 g (R + 1 + 10 + 2 * c) cnt x) (R + 1 + 9 + 2 * c) 3 ((cnt : Int) + 1)) g0 (R + 1) c n v len d (ud e2 (99 + 7 * c + cnt) x) (cnt + 1) := by
  obtain ⟨a1, a2, a3, a4, a5, a6, a7, a8, a9, a10, a11⟩ := H
  refine ⟨(a1.ch hc8).k (by decide), fun a z1 z2 z3 z4 z5 => ?_, fun j hj => ?_, ?_, ?_, ?_, ?_, ?_, fun j hj => ?_, fun j hj => ?_, fun j hj => ?_⟩
  · rw [up2_row (by omega), up2_row (by omega)]; exact a2 a z1 z2 z3 z4 z5
  · rw [up2_a (by omega), up2_a (by omega)]; exact a3 j hj
  · rw [up2_a (by omega), up2_a (by omega)]; exact a4
  · rw [up2_k (by omega), up2_a (by omega)]; exact a5
  · rw [up2_k (by omega), up2_a (by omega)]; exact a6
  · rw [up2_k (by omega), up2_a (by omega)]; exact a7
  · rw [up2_s]; omega
  · rw [up2_a (by omega)]
    by_cases z : j = cnt
    · subst z; rw [up2_s, ud_s]
    · rw [up2_k z, ud_n (by omega)]; exact a9 j (by omega)
  · rw [ud_n (by omega)]; exact a10 j hj
  · by_cases z : j = cnt
    · subst z; rw [ud_s]; exact hx
    · rw [ud_n (by omega)]; exact a11 j (by omega)
theorem cpm_bad {cd : Int} (hF : FrR g g1 R) (hI : ExI g1 (R + 1)) (h : res = .inr (cd, q)) : CPm g g0 R tx T c n v len d cnt res 0 (flM g1 R cd q) := by
  subst h
  exact ⟨hF.fl, rfl, fl_bad hI⟩
theorem cpm_ok (hF : FrR g g1 R) (H : MRd g1 R tx T s q) (hM : MidR g1 g0 (R + 1) c n v len d e2 (cnt + 1)) {p2 : Nat} (hq : sk T p2 = q) (h : res = .inl (e2, s, p2)) : CPm g g0 R tx T c n v len d cnt res 1 g1 := by
  subst h
  refine ⟨hF, rfl, ?_, hM⟩
  show MRd g1 R tx T s (sk T p2)
  rw [hq]
  exact H
theorem s_groupOf_r {h t : Int} (hn : ¬ s_groupOf d h t = -1) : 0 ≤ s_groupOf d h t ∧ s_groupOf d h t < d 3 := by
  unfold s_groupOf at hn ⊢
  rcases fst_rng (fun i => decide ((i : Int) < d 3) && (decide (d (57 + 9 * i) = h) && decide (d (58 + 9 * i) = t))) 5 with q | ⟨k, h1, h2, h3⟩
  · exact absurd q hn
  · rw [Bool.and_eq_true] at h3
    have h4 := of_decide_eq_true h3.1
    constructor
    · first | omega | (rw [h2]; omega)
    · first | omega | (rw [h2]; omega)
end MRS
