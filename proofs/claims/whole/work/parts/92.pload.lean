/-! the class: load -/
/-- errors have codes below zero, and lie in the text -/
def PB (T : Tx) (res : PR) : Prop := ∀ e, res = .inr e → (-5 ≤ e.1 ∧ e.1 ≤ -2) ∧ e.2 ≤ T.2
section PBS
variable {T : Tx} {p q : Nat} {d : Nat → Int} {s : Nat → Bool}
theorem pb_e {c : Int} {o : Nat} (h : -5 ≤ c ∧ c ≤ -2) (h2 : o ≤ T.2) : PB T (.inr (c, o)) := fun e he => by cases he; exact ⟨h, h2⟩
theorem pb_l {r : (Nat → Int) × (Nat → Bool) × Nat} : PB T (.inl r) := fun e he => by cases he
theorem pb_num {lo hi : Int} {k : Int → Nat → PR} (hp : p ≤ T.2) (h : ∀ v p2, p2 ≤ T.2 → PB T (k v p2)) : PB T (kNum T p lo hi k) := by
  have h1 := sk_le hp
  have h2 := rn_le (T := T) hD h1
  unfold kNum
  split
  · exact pb_e (by decide) h1
  · split
    · exact h _ _ h2
    · exact pb_e (by decide) h1
theorem pb_dig {m : Nat} {k : Nat → Int → Nat → PR} (hp : p ≤ T.2) (h : ∀ n v p2, p2 ≤ T.2 → PB T (k n v p2)) : PB T (kDig T p m k) := by
  have h1 := sk_le hp
  have h2 := rn_le (T := T) hD h1
  unfold kDig
  split
  · exact pb_e (by decide) h1
  · split
    · exact h _ _ _ h2
    · exact pb_e (by decide) h1
theorem pb_nam {k : Int → Int → Nat → PR} (hp : p ≤ T.2) (h : ∀ n v p2, p2 ≤ T.2 → PB T (k n v p2)) : PB T (kNam T p k) := by
  have h1 := sk_le hp
  have h2 := rn_le (T := T) hL h1
  unfold kNam
  split
  · exact pb_e (by decide) h1
  · split
    · exact h _ _ _ h2
    · exact pb_e (by decide) h1
theorem pb_sem {k : Nat → PR} (hp : p ≤ T.2) (h : ∀ p2, p2 ≤ T.2 → PB T (k p2)) : PB T (kSem T p k) := by
  have h1 := sk_le hp
  unfold kSem
  split
  · rename_i c
    have := by_lt c (by decide)
    exact h _ (by omega)
  · exact pb_e (by decide) h1
theorem pb_line (hq : q ≤ T.2) (hp : p ≤ T.2) : PB T (P_line T q d s p) := by
  unfold P_line
  split
  · exact pb_e (by decide) hq
  · exact pb_dig hp fun n v p2 h2 => by
      split
      · exact pb_l
      · exact pb_e (by decide) (sk_le hp)
theorem pb_group (hq : q ≤ T.2) (hp : p ≤ T.2) : PB T (P_group T q d s p) := by
  unfold P_group
  split
  · exact pb_e (by decide) hq
  · exact pb_nam hp fun n v p2 h2 => by
      split
      · exact pb_num h2 fun k p3 h3 => pb_num h3 fun b p4 h4 => pb_l
      · exact pb_e (by decide) (sk_le hp)
theorem pb_ch {r : Nat} {fin : (Nat → Int) → Nat → (Nat → Int)} : ∀ (f : Nat) (d : Nat → Int) (n p : Nat), p ≤ T.2 → PB T (P_ch T s r fin f d n p)
  | 0, _, _, _, _ => pb_l
  | f + 1, d, n, p, hp => by
    show PB T (if n = 3 then _ else _)
    split
    · exact pb_e (by decide) (sk_le hp)
    · exact pb_nam hp fun h t p2 h2 => by
        split
        · exact pb_e (by decide) (sk_le hp)
        · split
          · exact pb_ch f _ _ _ h2
          · exact pb_l
theorem pb_route (hq : q ≤ T.2) (hp : p ≤ T.2) : PB T (P_route T q d s p) := by
  unfold P_route
  split
  · exact pb_e (by decide) hq
  · exact pb_dig hp fun n v p2 h2 => by
      split
      · exact pb_num h2 fun len p3 h3 => pb_ch _ _ _ _ h3
      · exact pb_e (by decide) (sk_le hp)
theorem pb_call (hq : q ≤ T.2) (hp : p ≤ T.2) : PB T (P_call T q d s p) := by
  have h1 := sk_le hp
  unfold P_call
  split
  · exact pb_e (by decide) hq
  · split
    · exact pb_e (by decide) h1
    · split
      · exact pb_e (by decide) h1
      · exact pb_dig (rn_le hD h1) fun m v p2 h2 => pb_num h2 fun t p3 h3 => pb_num h3 fun c p4 h4 => pb_l
theorem pb_rule {i : Nat} (hq : q ≤ T.2) (hp : p ≤ T.2) : PB T (P_rule T q d s p i) := by
  unfold P_rule
  split
  · exact pb_e (by decide) hq
  · exact pb_num hp fun v p2 h2 => pb_l
theorem wd_end {i : Nat} (hi : st_len.getD i 0 ≠ 0) (h : wdB T q i = true) (hq : q ≤ T.2) : q + st_len.getD i 0 ≤ T.2 := by
  have h1 := (wd_iff.mp h).1
  have h2 := rn_le (T := T) hL hq
  have h3 : q + ln T q ≤ T.2 := h2
  omega
theorem pb_word (hq : q ≤ T.2) : PB T (P_word T d s q) := by
  unfold P_word
  split
  · rename_i c; exact pb_line hq (wd_end (i := 1) (by decide) c hq)
  · split
    · rename_i c; exact pb_group hq (wd_end (i := 2) (by decide) c hq)
    · split
      · rename_i c; exact pb_route hq (wd_end (i := 3) (by decide) c hq)
      · split
        · rename_i c; exact pb_call hq (wd_end (i := 4) (by decide) c hq)
        · split
          · rename_i c; exact pb_rule hq (wd_end (i := 5) (by decide) c hq)
          · split
            · rename_i c; exact pb_rule hq (wd_end (i := 6) (by decide) c hq)
            · split
              · rename_i c; exact pb_rule hq (wd_end (i := 7) (by decide) c hq)
              · exact pb_e (by decide) hq
/-- a place behind lies in the text -/
def PL (T : Tx) (res : PR) : Prop := ∀ r, res = .inl r → r.2.2 ≤ T.2
theorem pl_num {lo hi : Int} {k : Int → Nat → PR} (hp : p ≤ T.2) (h : ∀ v p2, p2 ≤ T.2 → PL T (k v p2)) : PL T (kNum T p lo hi k) := by
  have h2 := rn_le (T := T) hD (sk_le hp)
  unfold kNum
  split
  · exact fun r hr => by cases hr
  · split
    · exact h _ _ h2
    · exact fun r hr => by cases hr
theorem pl_dig {m : Nat} {k : Nat → Int → Nat → PR} (hp : p ≤ T.2) (h : ∀ n v p2, p2 ≤ T.2 → PL T (k n v p2)) : PL T (kDig T p m k) := by
  have h2 := rn_le (T := T) hD (sk_le hp)
  unfold kDig
  split
  · exact fun r hr => by cases hr
  · split
    · exact h _ _ _ h2
    · exact fun r hr => by cases hr
theorem pl_nam {k : Int → Int → Nat → PR} (hp : p ≤ T.2) (h : ∀ n v p2, p2 ≤ T.2 → PL T (k n v p2)) : PL T (kNam T p k) := by
  have h2 := rn_le (T := T) hL (sk_le hp)
  unfold kNam
  split
  · exact fun r hr => by cases hr
  · split
    · exact h _ _ _ h2
    · exact fun r hr => by cases hr
theorem pl_l {x : Nat → Int} {y : Nat → Bool} (hp : p ≤ T.2) : PL T (.inl (x, y, p)) := fun r hr => by cases hr; exact hp
theorem pl_r {e : PE} : PL T (.inr e) := fun r hr => by cases hr
theorem pl_ch {r : Nat} {fin : (Nat → Int) → Nat → (Nat → Int)} : ∀ (f : Nat) (d : Nat → Int) (n p : Nat), p ≤ T.2 → PL T (P_ch T s r fin f d n p)
  | 0, _, _, _, hp => pl_l hp
  | f + 1, d, n, p, hp => by
    show PL T (if n = 3 then _ else _)
    split
    · exact pl_r
    · exact pl_nam hp fun h t p2 h2 => by
        split
        · exact pl_r
        · split
          · exact pl_ch f _ _ _ h2
          · exact pl_l h2
theorem pl_word (hq : q ≤ T.2) : PL T (P_word T d s q) := by
  unfold P_word
  split
  · rename_i c
    have hp := wd_end (i := 1) (by decide) c hq
    unfold P_line
    split
    · exact pl_r
    · exact pl_dig hp fun n v p2 h2 => by
        split
        · exact pl_l h2
        · exact pl_r
  · split
    · rename_i c
      have hp := wd_end (i := 2) (by decide) c hq
      unfold P_group
      split
      · exact pl_r
      · exact pl_nam hp fun n v p2 h2 => by
          split
          · exact pl_num h2 fun k p3 h3 => pl_num h3 fun b p4 h4 => pl_l h4
          · exact pl_r
    · split
      · rename_i c
        have hp := wd_end (i := 3) (by decide) c hq
        unfold P_route
        split
        · exact pl_r
        · exact pl_dig hp fun n v p2 h2 => by
            split
            · exact pl_num h2 fun len p3 h3 => pl_ch _ _ _ _ h3
            · exact pl_r
      · split
        · rename_i c
          have hp := wd_end (i := 4) (by decide) c hq
          unfold P_call
          split
          · exact pl_r
          · split
            · exact pl_r
            · split
              · exact pl_r
              · exact pl_dig (rn_le hD (sk_le hp)) fun m v p2 h2 => pl_num h2 fun t p3 h3 => pl_num h3 fun c p4 h4 => pl_l h4
        · have hru : ∀ i p, p ≤ T.2 → PL T (P_rule T q d s p i) := fun i p hp => by
            unfold P_rule
            split
            · exact pl_r
            · exact pl_num hp fun v p2 h2 => pl_l h2
          split
          · rename_i c; exact hru _ _ (wd_end (i := 5) (by decide) c hq)
          · split
            · rename_i c; exact hru _ _ (wd_end (i := 6) (by decide) c hq)
            · split
              · rename_i c; exact hru _ _ (wd_end (i := 7) (by decide) c hq)
              · exact pl_r
theorem pb_all : ∀ (f : Nat) (d : Nat → Int) (s : Nat → Bool) (p : Nat), p ≤ T.2 → PB T (P_all T f d s p)
  | 0, _, _, _, _ => pb_l
  | f + 1, d, s, p, hp => by
    show PB T (if byT T (sk T p) = -1 then _ else _)
    split
    · exact pb_l
    · have h1 := pb_word (T := T) (d := d) (s := s) (sk_le hp)
      have h2 := pl_word (T := T) (d := d) (s := s) (sk_le hp)
      unfold P_stmt
      cases hw : P_word T d s (sk T p) with
      | inr e => intro e2 he; cases he; exact h1 e hw
      | inl r =>
        have h3 := h2 r hw
        show PB T (match kSem T r.2.2 fun p3 => .inl (r.1, r.2.1, p3) with | .inr e => .inr e | .inl r => P_all T f r.1 r.2.1 r.2.2)
        unfold kSem
        by_cases c : byT T (sk T r.2.2) = 59
        · rw [if_pos c]
          have := by_lt c (by decide)
          exact pb_all f _ _ _ (show sk T r.2.2 + 1 ≤ T.2 by omega)
        · rw [if_neg c]
          exact pb_e (by decide) (sk_le h3)
theorem pb_load : PB T (P_load T) := by
  unfold P_load
  have h0 := sk_le (T := T) (Nat.zero_le T.2)
  split
  · rename_i c
    exact pb_num (wd_end (i := 0) (by decide) c h0) fun r p2 h2 => pb_num h2 fun m p3 h3 => pb_sem h3 fun p4 h4 => pb_all _ _ _ _ h4
  · exact pb_e (by decide) h0
end PBS
theorem CxS.put {sh : Shp} {B : Nat} {kd : Kd} (h : CxS sh.1 B) : CxS (shP sh (B + 754) kd).1 B := by
  obtain ⟨h1, h2, h3, h4, h5, h6, h7⟩ := h
  refine ⟨by rw [shP_o (by omega)]; exact h1, by rw [shP_o (by omega)]; exact h2, h3.same (fun a _ _ => shP_o (by omega)), h4.same (fun a _ _ => shP_o (by omega)), ?_, ?_, fun i hi => (h7 i hi).same (fun a _ _ => shP_o (by omega))⟩
  · rw [shP_o (by omega)]; exact h5
  · rw [shP_o (by omega)]; exact h6
/-- what load comes to -/
def LD (g : Mem) (B : Nat) (T : Tx) (hist : Nat → (Nat → Int)) (d : Nat → Int) (c : Nat) : Int → Mem → Prop := fun z g2 => (∀ a, (a < B ∨ B + 831 ≤ a ∨ a = B + 1 ∨ (B + 77 ≤ a ∧ a < B + 152)) → g2 a = g a) ∧ ExI g2 (B + 755) ∧ g2 B 1 = 0 ∧ match P_load T with
  | .inl r => z = r.1 5 ∧ g2 B 2 = -1 ∧ KX g2 (B + 2) r.1 ∧ HX g2 (B + 152) (push d hist) (if c < 8 then c + 1 else 8)
  | .inr e => z = e.1 ∧ g2 B 2 = (e.2 : Int) ∧ KX g2 (B + 2) d ∧ HX g2 (B + 152) hist c

set_option maxRecDepth 20000 in
theorem c_load {w : Wd} {sh : Shp} {g : Mem} {B t0 c : Nat} {T : Tx} {d : Nat → Int} {hist : Nat → (Nat → Int)} (hB0 : CxS sh.1 B) (hr0 : sh.1 (B + 754) = some (kRd (B + 754) t0)) (hE0 : ExS sh.1 (B + 754 + 1)) (hK : KX g (B + 2) d) (hH : HX g (B + 152) hist c) (hI0 : ExI g (B + 754 + 1)) (hT7 : T.2 ≤ 700) (hf : (T.2 : Int) ≤ g B 1) (hbt : ∀ k, k < T.2 → g (B + 1) k = sb (T.1 k)) (hTb : ∀ k, 0 ≤ T.1 k ∧ T.1 k ≤ 255)  : CT w mX9_load [.ref (B), .int (i32 ((T.2 : Int)))] sh g (iQ (shP sh (B + 754) (kRd (B + 754) (B + 1))) (LD g B T hist d c)) := by
  refine j_entry (by decide) rfl (Nat.le_of_ble_eq_true rfl) (fun h => by cases h) rfl ?_
  show J w mX9_load 0 [(0, .ref (B)), (1, .int (i32 ((T.2 : Int))))] [] sh g 1 6 _
  refine j_iload_n 1 1 dX9_load_0 rfl rfl ?_
  refine j_if_lt 4 12 dX9_load_1 rfl rfl (r32 (by omega) (by omega)) (fun c_1 => absurd c_1 (by omega)) (fun c_1 => ?_)
  refine j_iload_n 5 1 dX9_load_4 rfl rfl ?_
  refine j_aload_n 6 0 dX9_load_5 rfl rfl ?_
  refine j_geti 9 dX9_load_6 rfl fl_X9_13 hB0.cx rfl rfl (fun r_6 => ?_)
  refine j_icmp_le 12 20 dX9_load_9 rfl rfl (r32 (by omega) (by omega)) r_6 (fun c_9 => ?_) (fun c_9 => absurd c_9 (by omega))
  refine j_aload_n 21 0 dX9_load_20 rfl rfl ?_
  refine j_getr 24 dX9_load_21 rfl fl_X9_40 hB0.cx rfl (fun _ _ => rfl) rfl ?_
  refine j_aload_n 25 0 dX9_load_24 rfl rfl ?_
  refine j_getr 28 dX9_load_25 rfl fl_X9_9 hB0.cx rfl (fun _ _ => rfl) rfl ?_
  refine j_iload_n 29 1 dX9_load_28 rfl rfl ?_
  refine j_callV 32 (As := [.ref (B + 1), .int (i32 ((T.2 : Int)))]) (kc2 := 1) (ks2 := 6) dX9_load_29 rfl mvX8_readSetup lk_X9_51 hr0 rfl ⟨Nat.le_of_ble_eq_true rfl, rfl⟩ rfl rfl (Nat.le_of_ble_eq_true rfl) ⟨Nat.le_of_ble_eq_true rfl, Nat.le_of_ble_eq_true rfl⟩ ⟨Nat.le_of_ble_eq_true rfl, Nat.le_of_ble_eq_true rfl⟩ (c_readSetup (T := T) hr0 hE0 hB0.buf (by omega) hI0 rfl (by omega) hbt hTb) x_i (k_i fun z_29 g_29 h_29 => ?_)
  obtain ⟨F29, hcl⟩ := h_29
  have hB := CxS.put (kd := kRd (B + 754) (B + 1)) hB0
  have hR := RdS.put (R := B + 754) (tx := B + 1) hE0 hB0.buf (by omega)
  refine j_istore_n 33 (L2 := [(2, .int (i32 (z_29))), (0, .ref (B)), (1, .int (i32 ((T.2 : Int))))]) dX9_load_32 rfl rfl (Nat.le_of_ble_eq_true rfl) rfl ?_
  refine j_aload_n 34 1 dX9_load_33 rfl rfl ?_
  refine j_iconst 35 dX9_load_34 rfl ?_
  refine j_puti 38 dX9_load_35 rfl fl_X9_13 hB.cx rfl rfl rfl (r32 (by decide) (by decide)) ?_
  refine j_mn (fun g_35 hg_35 => ?_)
  refine j_aload_n 39 1 dX9_load_38 rfl rfl ?_
  refine j_aload_n 40 1 dX9_load_39 rfl rfl ?_
  refine j_getr 43 dX9_load_40 rfl fl_X9_40 hB.cx rfl (fun _ _ => rfl) rfl ?_
  refine j_geti 46 dX9_load_43 rfl fl_X9_55 hR.rd rfl rfl (fun r_43 => ?_)
  refine j_top (y := g_29 (B + 754) 1) ((by rw [hg_35, up2_a (by omega)])) ?_
  refine j_puti 49 dX9_load_46 rfl fl_X9_17 hB.cx rfl rfl rfl (by rw [show g_29 (B + 754) 1 = g_35 (B + 754) 1 by rw [hg_35, up2_a (by omega)]]; exact r_43) ?_
  refine j_mn (fun g_46 hg_46 => ?_)
  have hfr46 : ∀ a, a ≠ B → g_46 a = g_29 a := fun a ha => by rw [hg_46, up2_row ha, hg_35, up2_row ha]
  have hB46 : g_46 B 1 = 0 ∧ g_46 B 2 = g_29 (B + 754) 1 := by rw [hg_46, hg_35]; exact ⟨by rw [up2_k (by decide)]; exact up2_s, up2_s⟩
  refine j_iload_n 50 0 dX9_load_49 rfl rfl ?_
  rcases hps : P_load T with r | e
  ·
    rw [hps] at hcl
    obtain ⟨hz29, H1⟩ := hcl
    refine j_top (y := 0) hz29 ?_
    refine j_if_eq 53 55 dX9_load_50 rfl rfl (r32 (by decide) (by decide)) (fun c_50 => ?_) (fun c_50 => absurd rfl c_50)
    have hK4 : KX g_46 (B + 2) d := hK.rows (fun a h1 h2 => (hfr46 a (by omega)).trans (F29 a (by omega)))
    have hH4 : HX g_46 (B + 152) hist c := hH.rows (fun a h1 h2 => (hfr46 a (by omega)).trans (F29 a (by omega)))
    have hH0 := hH4
    obtain ⟨h8, h2, hi, v, hv8, hv, hr⟩ := hH0
    refine j_aload_n 56 1 dX9_load_55 rfl rfl ?_
    refine j_getr 59 dX9_load_56 rfl fl_X9_33 hB.cx rfl (fun _ _ => rfl) rfl ?_
    refine j_aload_n 60 1 dX9_load_59 rfl rfl ?_
    refine j_getr 63 dX9_load_60 rfl fl_X9_23 hB.cx rfl (fun _ _ => rfl) rfl ?_
    refine j_callV 66 (As := [.ref ((B + 2))]) (kc2 := 1) (ks2 := 6) dX9_load_63 rfl mvX3_keep lk_X9_56 hB.his.hs rfl ⟨Nat.le_of_ble_eq_true rfl, rfl⟩ rfl rfl (Nat.le_of_ble_eq_true rfl) ⟨Nat.le_of_ble_eq_true rfl, Nat.le_of_ble_eq_true rfl⟩ ⟨Nat.le_of_ble_eq_true rfl, Nat.le_of_ble_eq_true rfl⟩ (c_keep hB.his hB.now hv h2 h8 hv8 (by omega)) x_v (k_v fun g_63 h_63 => ?_)
    obtain ⟨gk, hC, hg2⟩ := h_63
    obtain ⟨hH2, hfr⟩ := HX.keep hH4 hv (by omega) hK4 hC
    rw [← hg2] at hH2 hfr
    obtain ⟨hX1, hk1, hq1, hR1, hP1, hs1, hz1, he1⟩ := H1
    have hKt : KX g_63 (B + 754 + 1) r.1 := (hP1.kx hR1).rows (fun a h1 h2 => (hfr a (by omega)).trans (hfr46 a (by omega)))
    have hIn : ExI g_63 (B + 2) := (hK4.rows (fun a h1 h2 => hfr a (by omega))).1.1
    refine j_aload_n 67 1 dX9_load_66 rfl rfl ?_
    refine j_getr 70 dX9_load_67 rfl fl_X9_23 hB.cx rfl (fun _ _ => rfl) rfl ?_
    refine j_aload_n 71 1 dX9_load_70 rfl rfl ?_
    refine j_getr 74 dX9_load_71 rfl fl_X9_40 hB.cx rfl (fun _ _ => rfl) rfl ?_
    refine j_getr 77 dX9_load_74 rfl fl_X9_60 hR.rd rfl (fun _ _ => rfl) rfl ?_
    refine j_callV 80 (As := [.ref ((B + 754 + 1))]) (kc2 := 1) (ks2 := 6) dX9_load_77 rfl mvX1_copyFrom lk_X9_63 hB.now.ex rfl ⟨Nat.le_of_ble_eq_true rfl, rfl⟩ rfl rfl (Nat.le_of_ble_eq_true rfl) ⟨Nat.le_of_ble_eq_true rfl, Nat.le_of_ble_eq_true rfl⟩ ⟨Nat.le_of_ble_eq_true rfl, Nat.le_of_ble_eq_true rfl⟩ (c_copyX hB.now hR.told (by omega)) x_v (k_v fun g_77 h_77 => ?_)
    obtain ⟨k1, k2, k3⟩ := h_77.kx (by omega) hKt hIn
    have hB77 : g_77 B = g_46 B := by rw [k2 B (by omega), hfr B (by omega)]
    have h5 : g_77 (B + 2) 5 = r.1 5 := k1.1.2.1.2.2.2.2.2.1
    refine j_aload_n 81 1 dX9_load_80 rfl rfl ?_
    refine j_getr 84 dX9_load_81 rfl fl_X9_23 hB.cx rfl (fun _ _ => rfl) rfl ?_
    refine j_geti 87 dX9_load_84 rfl fl_X9_66 hB.now.ex rfl rfl (fun r_84 => ?_)
    exact j_iret dX9_load_87 rfl (⟨_, rfl, rfl, fun a ha => by
      rw [k2 a (by omega), hfr a (by omega)]
      exact (hfr46 a (by omega)).trans (F29 a (by omega)), (hKt.rows (fun a h1 h2 => k2 a (by omega))).1.1, by rw [hB77]; exact hB46.1, by
      rw [hps]
      exact ⟨h5, by rw [hB77]; exact hB46.2.trans he1, k1, hH2.rows (fun a h1 h2 => k2 a (by omega))⟩⟩)
  ·
    rw [hps] at hcl
    obtain ⟨hz29, H1⟩ := hcl
    have hpb := pb_load e hps
    refine j_top (y := e.1) hz29 ?_
    refine j_if_eq 53 55 dX9_load_50 rfl rfl (r32 (by omega) (by omega)) (fun c_50 => absurd c_50 (by omega)) (fun c_50 => ?_)
    refine j_iload_n 54 0 dX9_load_53 rfl rfl ?_
    exact j_iret dX9_load_54 rfl (⟨_, rfl, rfl, fun a ha => (hfr46 a (by omega)).trans (F29 a (by omega)), H1.2.2.fr (fun a h1 h2 => hfr46 a (by omega)), hB46.1, by
      rw [hps]
      exact ⟨hz29, hB46.2.trans H1.2.1, hK.rows (fun a h1 h2 => (hfr46 a (by omega)).trans (F29 a (by omega))), hH.rows (fun a h1 h2 => (hfr46 a (by omega)).trans (F29 a (by omega)))⟩⟩)
