/-! the reader of the class: routes -/

/-- a route is being told: it is the c-th, its digits, length, and so many choices -/
def MidR (g g0 : Mem) (e c n : Nat) (v len : Int) (d e2 : Nat → Int) (cnt : Nat) : Prop :=
  ExI g e ∧ (∀ a, a ≠ e → a ≠ e + 9 + 2 * c → a ≠ e + 10 + 2 * c → e ≤ a → a < e + 75 → g a = g0 a) ∧ (∀ j, j ≠ 4 → g e j = g0 e j) ∧ g e 4 = (c : Int) + 1 ∧ g (e + 9 + 2 * c) 0 = g0 (e + 9 + 2 * c) 0 ∧
  g (e + 9 + 2 * c) 1 = enc n v ∧ g (e + 9 + 2 * c) 2 = len ∧ g (e + 9 + 2 * c) 3 = (cnt : Int) ∧ (∀ j : Nat, j < cnt → g (e + 10 + 2 * c) j = e2 (99 + 7 * c + j)) ∧
  (∀ j, (j < 99 + 7 * c ∨ 102 + 7 * c ≤ j) → e2 j = d j) ∧ (∀ j : Nat, j < cnt → 0 ≤ e2 (99 + 7 * c + j) ∧ e2 (99 + 7 * c + j) < d 3)
def MRd (g : Mem) (R tx : Nat) (T : Tx) (s : Nat → Bool) (q : Nat) : Prop := TxR g R tx T ∧ TokR g R T q ∧ q ≤ T.2 ∧ (g R 6 = b01 (s 0) ∧ g R 7 = b01 (s 1) ∧ g R 8 = b01 (s 2)) ∧ g R 2 = 0 ∧ g R 1 = -1
/-- one choice -/
def P_c1 (T : Tx) (s : Nat → Bool) (r : Nat) (d : Nat → Int) (n p : Nat) : PR := kNam T p fun h t p2 =>
  if s_groupOf d h t = -1 ∨ chosen d r (s_groupOf d h t) n = true then .inr (-4, sk T p) else .inl (ud d (99 + 7 * r + n) (s_groupOf d h t), s, p2)
/-- choices from the n-th on, f at most; then the rest -/
def P_ch2 (T : Tx) (s : Nat → Bool) (r : Nat) (fin : (Nat → Int) → Nat → (Nat → Int)) : Nat → (Nat → Int) → Nat → Nat → PR
  | 0, d, n, p => .inl (fin d n, s, p)
  | f + 1, d, n, p => match P_c1 T s r d n p with
    | .inr e => .inr e
    | .inl x => if isL (byT T (sk T x.2.2)) = true then P_ch2 T s r fin f x.1 (n + 1) x.2.2 else .inl (fin x.1 (n + 1), s, x.2.2)
theorem ch2_l {T : Tx} {s : Nat → Bool} {r : Nat} {fin : (Nat → Int) → Nat → (Nat → Int)} {f n p : Nat} {d : Nat → Int} {x : (Nat → Int) × (Nat → Bool) × Nat} (h : P_c1 T s r d n p = .inl x) : P_ch2 T s r fin (f + 1) d n p = if isL (byT T (sk T x.2.2)) = true then P_ch2 T s r fin f x.1 (n + 1) x.2.2 else .inl (fin x.1 (n + 1), s, x.2.2) := by
  rw [P_ch2, h]
theorem ch2_r {T : Tx} {s : Nat → Bool} {r : Nat} {fin : (Nat → Int) → Nat → (Nat → Int)} {f n p : Nat} {d : Nat → Int} {x : PE} (h : P_c1 T s r d n p = .inr x) : P_ch2 T s r fin (f + 1) d n p = .inr x := by
  rw [P_ch2, h]
def P_route2 (T : Tx) (st : Nat) (d : Nat → Int) (s : Nat → Bool) (p : Nat) : PR :=
  if 8 ≤ d 4 then .inr (-5, st) else kDig T p 5 fun n v p2 => if s_prefAt d n v = -1 then kNum T p2 n 6 fun len p3 => P_ch2 T s (d 4).toNat (fun e c => a_route e n v len c) 3 d 0 p3 else .inr (-4, sk T p)
/-- a semicolon behind a statement -/
def semi (T : Tx) : PR → PR
  | .inr e => .inr e
  | .inl r => kSem T r.2.2 fun p3 => .inl (r.1, r.2.1, p3)
theorem ch_semi {T : Tx} {s : Nat → Bool} {r : Nat} {fin : (Nat → Int) → Nat → (Nat → Int)} : ∀ (f : Nat) (d : Nat → Int) (n p : Nat), n + f = 3 → (f = 0 → isL (byT T (sk T p)) = true) → semi T (P_ch T s r fin (f + 1) d n p) = semi T (P_ch2 T s r fin f d n p)
  | 0, d, n, p, h, h2 => by
    have hl := h2 rfl
    have e1 : P_ch T s r fin 1 d n p = .inr (-2, sk T p) := if_pos (by omega)
    rw [e1]
    have e2 : P_ch2 T s r fin 0 d n p = .inl (fin d n, s, p) := rfl
    rw [e2]
    show Sum.inr (-2, sk T p) = kSem T p (fun p3 => .inl (fin d n, s, p3))
    unfold kSem
    rw [if_neg (fun z => by rw [z] at hl; cases hl)]
  | f + 1, d, n, p, h, h2 => by
    have e1 : P_ch T s r fin (f + 1 + 1) d n p = kNam T p fun h t p2 => if s_groupOf d h t = -1 ∨ chosen d r (s_groupOf d h t) n = true then .inr (-4, sk T p)
      else if isL (byT T (sk T p2)) = true then P_ch T s r fin (f + 1) (ud d (99 + 7 * r + n) (s_groupOf d h t)) (n + 1) p2
      else .inl (fin (ud d (99 + 7 * r + n) (s_groupOf d h t)) (n + 1), s, p2) := if_neg (by omega)
    rw [e1]
    show semi T (kNam T p _) = semi T (match P_c1 T s r d n p with | .inr e => .inr e | .inl x => if isL (byT T (sk T x.2.2)) = true then P_ch2 T s r fin f x.1 (n + 1) x.2.2 else .inl (fin x.1 (n + 1), s, x.2.2))
    unfold P_c1 kNam
    by_cases c1 : ln T (sk T p) = 0
    · rw [if_pos c1, if_pos c1]
    · rw [if_neg c1, if_neg c1]
      by_cases c2 : ln T (sk T p) ≤ 8
      · rw [if_pos c2, if_pos c2]
        dsimp only
        by_cases c3 : s_groupOf d (nmH T (sk T p)) (nmT T (sk T p)) = -1 ∨ chosen d r (s_groupOf d (nmH T (sk T p)) (nmT T (sk T p))) n = true
        · rw [if_pos c3, if_pos c3]
        · rw [if_neg c3, if_neg c3]
          show semi T (if _ then _ else _) = semi T (if isL (byT T (sk T (sk T p + ln T (sk T p)))) = true then _ else _)
          by_cases c4 : isL (byT T (sk T (sk T p + ln T (sk T p)))) = true
          · rw [if_pos c4, if_pos c4]
            exact ch_semi f _ (n + 1) _ (by omega) (fun _ => c4)
          · rw [if_neg c4, if_neg c4]
      · rw [if_neg c2, if_neg c2]
theorem route_semi {T : Tx} {st : Nat} {d : Nat → Int} {s : Nat → Bool} {p : Nat} : semi T (P_route T st d s p) = semi T (P_route2 T st d s p) := by
  unfold P_route P_route2
  by_cases c0 : 8 ≤ d 4
  · rw [if_pos c0, if_pos c0]
  · rw [if_neg c0, if_neg c0]
    unfold kDig
    by_cases c1 : dn T (sk T p) = 0
    · rw [if_pos c1, if_pos c1]
    · rw [if_neg c1, if_neg c1]
      by_cases c2 : dn T (sk T p) ≤ 5
      · rw [if_pos c2, if_pos c2]
        dsimp only
        by_cases c3 : s_prefAt d (dn T (sk T p)) (bv (fT T (sk T p)) (dn T (sk T p))) = -1
        · rw [if_pos c3, if_pos c3]
          unfold kNum
          by_cases c4 : dn T (sk T (sk T p + dn T (sk T p))) = 0
          · rw [if_pos c4, if_pos c4]
          · rw [if_neg c4, if_neg c4]
            split
            · exact ch_semi 3 _ 0 _ rfl (fun h => by cases h)
            · rfl
        · rw [if_neg c3, if_neg c3]
      · rw [if_neg c2, if_neg c2]
/-- what the reading of a choice comes to -/
def CPm (g g0 : Mem) (R tx : Nat) (T : Tx) (c n : Nat) (v len : Int) (d : Nat → Int) (cnt : Nat) (res : PR) : Int → Mem → Prop := fun z g2 => FrR g g2 R ∧ match res with
  | .inl r => z = 1 ∧ MRd g2 R tx T r.2.1 (sk T r.2.2) ∧ MidR g2 g0 (R + 1) c n v len d r.1 (cnt + 1)
  | .inr e => z = 0 ∧ CBad g2 R e.1 e.2
section EXU
variable {g : Mem} {e c k a : Nat} {x : Int}
theorem ExI.ch (h : ExI g e) (hc : c < 8) : ExI (up2 g (e + 10 + 2 * c) k x) e :=
  ⟨fun i hi => by rw [up2_a (by omega)]; exact h.1 i hi, fun i hi => by rw [up2_a (by omega)]; exact h.2.1 i hi, fun i hi => by rw [up2_a (by omega)]; exact h.2.2.1 i hi, fun i hi => by rw [up2_a (by omega)]; exact h.2.2.2.1 i hi, fun i hi => by rw [up2_a (by omega)]; exact h.2.2.2.2 i hi⟩
theorem ExI.upk (h : ExI g e) (hk : 0 ≠ k) : ExI (up2 g a k x) e := h.same (fun _ _ _ => up2_k hk)
end EXU
section MRS
variable {g g1 g2 g0 : Mem} {R tx q p n m c cnt : Nat} {T : Tx} {d e2 : Nat → Int} {s : Nat → Bool} {v len : Int} {res : PR}
theorem MRd.adv (H : MRd g R tx T s q) (htx : tx < R ∨ R + 76 ≤ tx) (hz : szT T q = m) : MRd (advM g R T (q + m)) R tx T s (sk T (q + m)) := by
  obtain ⟨h1, h2, h3, h6, h7, h8⟩ := H
  have hsz := szT_le h1.2.2.2 h3
  refine ⟨tokM_X h1 (by omega), adv_tok, sk_le (by omega), ?_, ?_, ?_⟩
  · unfold advM; rw [tokM_at, tokM_at, tokM_at]; exact h6
  · unfold advM; rw [tokM_at]; exact h7
  · unfold advM; rw [tokM_at]; exact h8
theorem MRd.upd (H : MRd g R tx T s q) (h1 : ∀ j, g2 R j = g R j) (ht : g2 tx = g tx) : MRd g2 R tx T s q := by
  obtain ⟨a1, a2, a3, a6, a7, a8⟩ := H
  exact ⟨⟨a1.1, by rw [h1]; exact a1.2.1, fun k hk => by rw [ht]; exact a1.2.2.1 k hk, a1.2.2.2⟩, a2.same (fun j _ => h1 j), a3, by rw [h1, h1, h1]; exact a6, by rw [h1]; exact a7, by rw [h1]; exact a8⟩
theorem CRd.mrd (H : CRd g R tx T d s q) : MRd g R tx T s q := ⟨H.1, H.2.1, H.2.2.1, H.2.2.2.2.2.1, H.2.2.2.2.2.2.1, H.2.2.2.2.2.2.2⟩
theorem MRd.crd (H : MRd g R tx T s q) (h1 : RelX g (R + 1) d) (h2 : PInv d) : CRd g R tx T d s q := ⟨H.1, H.2.1, H.2.2.1, h1, h2, H.2.2.2.1, H.2.2.2.2.1, H.2.2.2.2.2⟩
theorem MidR.rows (hc8 : c < 8) (H : MidR g g0 (R + 1) c n v len d e2 cnt) (h : ∀ a, R + 1 ≤ a → a < R + 76 → g2 a = g a) : MidR g2 g0 (R + 1) c n v len d e2 cnt := by
  obtain ⟨a1, a2, a3, a4, a5, a6, a7, a8, a9, a10, a11⟩ := H
  refine ⟨a1.same (fun a h1 h2 => by rw [h a h1 (by omega)]), fun a z1 z2 z3 z4 z5 => (h a z4 (by omega)).trans (a2 a z1 z2 z3 z4 z5), fun j hj => by rw [h _ (by omega) (by omega)]; exact a3 j hj, by rw [h _ (by omega) (by omega)]; exact a4, by rw [h _ (by omega) (by omega)]; exact a5, by rw [h _ (by omega) (by omega)]; exact a6, by rw [h _ (by omega) (by omega)]; exact a7, by rw [h _ (by omega) (by omega)]; exact a8, fun j hj => by rw [h _ (by omega) (by omega)]; exact a9 j hj, a10, a11⟩
theorem MidR.fin (hc : d 4 = (c : Int)) (hc8 : c < 8) (hn : 1 ≤ n ∧ n ≤ 5) (hv : 0 ≤ v ∧ v < pw n) (hlen : len ≤ 6) (hcnt : 1 ≤ cnt ∧ cnt ≤ 3) (hR0 : RelX g0 (R + 1) d) (hP : PInv d) (H : MidR g g0 (R + 1) c n v len d e2 cnt) : RelX g (R + 1) (a_route e2 n v len cnt) ∧ PInv (a_route e2 n v len cnt) := by
  obtain ⟨a1, a2, a3, a4, a5, a6, a7, a8, a9, a10, a11⟩ := H
  exact ⟨rel_route2 hc hc8 hn hv hlen hcnt a10 a11 a2 a3 a4 a5 a6 a7 a8 a9 hR0 hP, pinv_route hc hc8 hn hv hlen hcnt a10 a11 hP⟩
theorem MidR.grp (hc8 : c < 8) (hR0 : RelX g0 (R + 1) d) (hP : PInv d) (H : MidR g g0 (R + 1) c n v len d e2 cnt) {hh t : Int} (hv : VN hh t) : x_groupNamed g (R + 1) (nm27 hh t) = s_groupOf e2 hh t := by
  obtain ⟨a1, a2, a3, a4, a5, a6, a7, a8, a9, a10, a11⟩ := H
  have e1 : x_groupNamed g (R + 1) (nm27 hh t) = x_groupNamed g0 (R + 1) (nm27 hh t) := fst_cong (fun k hk => by rw [a3 3 (by decide), a2 (R + 1 + 3 + k) (by omega) (by omega) (by omega) (by omega) (by omega)])
  rw [e1, rel_groupNamed hR0 hP hv]
  exact fst_cong (fun k hk => by rw [a10 3 (by omega), a10 (57 + 9 * k) (by omega), a10 (58 + 9 * k) (by omega)])
theorem MidR.chs (H : MidR g g0 (R + 1) c n v len d e2 cnt) (x : Int) : ∀ k, k ≤ cnt → hasC (g (R + 1 + 10 + 2 * c)) x k = chosen e2 c x k
  | 0, _ => rfl
  | k + 1, h => by
    show (hasC _ x k || decide (g (R + 1 + 10 + 2 * c) k = x)) = (chosen e2 c x k || decide (e2 (99 + 7 * c + k) = x))
    rw [MidR.chs H x k (by omega), H.2.2.2.2.2.2.2.2.1 k (by omega)]
theorem MidR.add (hc8 : c < 8) (H : MidR g g0 (R + 1) c n v len d e2 cnt) (hcnt : cnt < 3) {x : Int} (hx : 0 ≤ x ∧ x < d 3) : MidR (up2 (up2 g (R + 1 + 10 + 2 * c) cnt x) (R + 1 + 9 + 2 * c) 3 ((cnt : Int) + 1)) g0 (R + 1) c n v len d (ud e2 (99 + 7 * c + cnt) x) (cnt + 1) := by
  obtain ⟨a1, a2, a3, a4, a5, a6, a7, a8, a9, a10, a11⟩ := H
  refine ⟨ExI.upk (ExI.ch a1 hc8) (by decide), fun a z1 z2 z3 z4 z5 => ?_, fun j hj => ?_, ?_, ?_, ?_, ?_, ?_, fun j hj => ?_, fun j hj => ?_, fun j hj => ?_⟩
  · rw [up2_row (by omega), up2_row (by omega)]; exact a2 a z1 z2 z3 z4 z5
  · rw [up2_a (by omega), up2_a (by omega)]; exact a3 j hj
  · rw [up2_a (by omega), up2_a (by omega)]; exact a4
  · rw [up2_k (by omega), up2_a (by omega)]; exact a5
  · rw [up2_k (by omega), up2_a (by omega)]; exact a6
  · rw [up2_k (by omega), up2_a (by omega)]; exact a7
  · rw [up2_s]; omega
  · rw [up2_a (by omega)]
    by_cases z : j = cnt
    · subst z; rw [up2_s, ud_s]
    · rw [up2_k z, ud_n (by omega)]; exact a9 j (by omega)
  · rw [ud_n (by omega)]; exact a10 j hj
  · by_cases z : j = cnt
    · subst z; rw [ud_s]; exact hx
    · rw [ud_n (by omega)]; exact a11 j (by omega)
theorem cpm_bad {cd : Int} (hF : FrR g g1 R) (hI : ExI g1 (R + 1)) (h : res = .inr (cd, q)) : CPm g g0 R tx T c n v len d cnt res 0 (flM g1 R cd q) := by
  subst h
  exact ⟨hF.fl, rfl, fl_bad hI⟩
theorem cpm_ok (hF : FrR g g1 R) (H : MRd g1 R tx T s q) (hM : MidR g1 g0 (R + 1) c n v len d e2 (cnt + 1)) {p2 : Nat} (hq : sk T p2 = q) (h : res = .inl (e2, s, p2)) : CPm g g0 R tx T c n v len d cnt res 1 g1 := by
  subst h
  refine ⟨hF, rfl, ?_, hM⟩
  show MRd g1 R tx T s (sk T p2)
  rw [hq]
  exact H
theorem s_groupOf_r {h t : Int} (hn : ¬ s_groupOf d h t = -1) : 0 ≤ s_groupOf d h t ∧ s_groupOf d h t < d 3 := by
  unfold s_groupOf at hn ⊢
  rcases fst_rng (fun i => decide ((i : Int) < d 3) && (decide (d (57 + 9 * i) = h) && decide (d (58 + 9 * i) = t))) 5 with q | ⟨k, h1, h2, h3⟩
  · exact absurd q hn
  · rw [Bool.and_eq_true] at h3
    have h4 := of_decide_eq_true h3.1
    constructor
    · first | omega | (rw [h2]; omega)
    · first | omega | (rw [h2]; omega)
end MRS
