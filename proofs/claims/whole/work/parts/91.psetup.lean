/-! the reader of the class: readSetup -/
section ALL
variable {T : Tx} {f p q : Nat} {d : Nat → Int} {s : Nat → Bool} {e : PE} {r : (Nat → Int) × (Nat → Bool) × Nat}
theorem stmt_eq : P_stmt T d s p = semi T (P_word2 T d s (sk T p)) := by
  rw [← word_semi]
  unfold P_stmt semi
  cases P_word T d s (sk T p) <;> rfl
theorem all_e (h : byT T (sk T p) = -1) : ∀ f, P_all T f d s p = .inl (d, s, p)
  | 0 => rfl
  | f + 1 => if_pos h
theorem all_n (h : byT T (sk T p) ≠ -1) : P_all T (f + 1) d s p = match P_stmt T d s p with | .inr e => .inr e | .inl r => P_all T f r.1 r.2.1 r.2.2 := if_neg h
theorem all_b (h : byT T (sk T p) ≠ -1) (h2 : P_word2 T d s (sk T p) = .inr e) : P_all T (f + 1) d s p = .inr e := by
  rw [all_n h, stmt_eq, h2]; rfl
theorem all_s (h : byT T (sk T p) ≠ -1) (h2 : P_word2 T d s (sk T p) = .inl r) (h3 : byT T (sk T r.2.2) ≠ 59) : P_all T (f + 1) d s p = .inr (-2, sk T r.2.2) := by
  have e1 : semi T (.inl r) = .inr (-2, sk T r.2.2) := if_neg h3
  rw [all_n h, stmt_eq, h2, e1]
theorem all_o (h : byT T (sk T p) ≠ -1) (h2 : P_word2 T d s (sk T p) = .inl r) (h3 : byT T (sk T r.2.2) = 59) : P_all T (f + 1) d s p = P_all T f r.1 r.2.1 (sk T r.2.2 + 1) := by
  have e1 : semi T (.inl r) = .inl (r.1, r.2.1, sk T r.2.2 + 1) := if_pos h3
  rw [all_n h, stmt_eq, h2, e1]
theorem load_b (h : P_size T (sk T 0) = .inr e) : P_load T = .inr e := by
  unfold P_size at h
  unfold P_load
  by_cases c0 : wdB T (sk T 0) 0 = true
  · rw [if_pos c0] at h ⊢
    unfold kNum at h ⊢
    by_cases c1 : dn T (sk T (sk T 0 + 8)) = 0
    · rw [if_pos c1] at h ⊢; exact h
    · rw [if_neg c1] at h ⊢
      by_cases c2 : 1 ≤ nv T (sk T (sk T 0 + 8)) ∧ nv T (sk T (sk T 0 + 8)) ≤ 4
      · rw [if_pos c2] at h ⊢
        dsimp only at h ⊢
        by_cases c3 : dn T (sk T (sk T (sk T 0 + 8) + dn T (sk T (sk T 0 + 8)))) = 0
        · rw [if_pos c3] at h ⊢; exact h
        · rw [if_neg c3] at h ⊢
          split at h
          · rename_i c4
            rw [if_pos c4]
            unfold kSem at h ⊢
            split at h
            · cases h
            · rename_i c5
              rw [if_neg c5]; exact h
          · rename_i c4
            rw [if_neg c4]; exact h
      · rw [if_neg c2] at h ⊢; exact h
  · rw [if_neg c0] at h ⊢; exact h
theorem load_o (h : P_size T (sk T 0) = .inl r) : P_load T = P_all T 700 r.1 r.2.1 r.2.2 := by
  unfold P_size at h
  unfold P_load
  by_cases c0 : wdB T (sk T 0) 0 = true
  · rw [if_pos c0] at h ⊢
    unfold kNum at h ⊢
    by_cases c1 : dn T (sk T (sk T 0 + 8)) = 0
    · rw [if_pos c1] at h; cases h
    · rw [if_neg c1] at h ⊢
      by_cases c2 : 1 ≤ nv T (sk T (sk T 0 + 8)) ∧ nv T (sk T (sk T 0 + 8)) ≤ 4
      · rw [if_pos c2] at h ⊢
        dsimp only at h ⊢
        by_cases c3 : dn T (sk T (sk T (sk T 0 + 8) + dn T (sk T (sk T 0 + 8)))) = 0
        · rw [if_pos c3] at h; cases h
        · rw [if_neg c3] at h ⊢
          split at h
          · rename_i c4
            rw [if_pos c4]
            unfold kSem at h ⊢
            split at h
            · rename_i c5
              rw [if_pos c5]
              cases h
              rfl
            · cases h
          · cases h
      · rw [if_neg c2] at h; cases h
  · rw [if_neg c0] at h; cases h
end ALL
theorem kRd_put {R t0 t1 : Nat} : kdR (kRd R t0) 3 (some t1) = kRd R t1 := by
  have : (fun j => if j = 3 then some t1 else (kRd R t0).2.2 j) = (kRd R t1).2.2 := funext fun j => by
    by_cases z : j = 3
    · subst z; rfl
    · rw [if_neg z]
      match j, z with
      | 0, _ => rfl
      | 1, _ => rfl
      | 2, _ => rfl
      | 3, z => exact absurd rfl z
      | _ + 4, _ => rfl
  unfold kdR
  rw [this]
  rfl
theorem ExS.same {sh sh2 : Nat → Option Kd} {e : Nat} (h : ExS sh e) (q : ∀ a, e ≤ a → a < e + 75 → sh2 a = sh a) : ExS sh2 e := by
  obtain ⟨h1, h2, h3, h4, h5, h6, h7, h8, h9, h10, h11, h12, h13⟩ := h
  refine ⟨?_, ?_, ?_, fun i hi => ?_, ?_, fun i hi => ?_, fun i hi => ?_, ?_, fun i hi => ?_, ?_, fun i hi => ?_, ?_, fun i hi => ?_⟩
  · rw [q _ (by omega) (by omega)]; exact h1
  · rw [q _ (by omega) (by omega)]; exact h2
  · rw [q _ (by omega) (by omega)]; exact h3
  · rw [q _ (by omega) (by omega)]; exact h4 i hi
  · rw [q _ (by omega) (by omega)]; exact h5
  · rw [q _ (by omega) (by omega)]; exact h6 i hi
  · rw [q _ (by omega) (by omega)]; exact h7 i hi
  · rw [q _ (by omega) (by omega)]; exact h8
  · rw [q _ (by omega) (by omega)]; exact h9 i hi
  · rw [q _ (by omega) (by omega)]; exact h10
  · rw [q _ (by omega) (by omega)]; exact h11 i hi
  · rw [q _ (by omega) (by omega)]; exact h12
  · rw [q _ (by omega) (by omega)]; exact h13 i hi
theorem RdS.put {sh : Shp} {R tx : Nat} (hE : ExS sh.1 (R + 1)) (ht : sh.1 tx = some (11, 700, kN)) (htx : tx < R ∨ R + 76 ≤ tx) : RdS (shP sh R (kRd R tx)).1 R tx :=
  ⟨shP_s, hE.same (fun a h1 h2 => shP_o (by omega)), by rw [shP_o (by omega)]; exact ht⟩
/-- what readSetup comes to -/
def CL (g : Mem) (R tx : Nat) (T : Tx) : Int → Mem → Prop := fun z g2 => FrR g g2 R ∧ match P_load T with
  | .inl r => z = 0 ∧ CRd g2 R tx T r.1 r.2.1 (sk T r.2.2)
  | .inr e => z = e.1 ∧ CBad g2 R e.1 e.2

set_option maxRecDepth 20000 in
theorem c_readSetup {w : Wd} {sh : Shp} {g : Mem} {R t0 tx n : Nat} {T : Tx} (hr0 : sh.1 R = some (kRd R t0)) (hE0 : ExS sh.1 (R + 1)) (ht : sh.1 tx = some (11, 700, kN)) (htx : tx < R ∨ R + 76 ≤ tx) (hI0 : ExI g (R + 1)) (hn : T.2 = n) (hT7 : T.2 ≤ 700) (hbt : ∀ k, k < T.2 → g tx k = sb (T.1 k)) (hTb : ∀ k, 0 ≤ T.1 k ∧ T.1 k ≤ 255)  : CT w mX8_readSetup [.ref (R), .ref (tx), .int (i32 ((T.2 : Int)))] sh g (iQ (shP sh R (kRd R tx)) (CL g R tx T)) := by
  refine j_entry (by decide) rfl (Nat.le_of_ble_eq_true rfl) (fun h => by cases h) rfl ?_
  show J w mX8_readSetup 0 [(0, .ref (R)), (1, .ref (tx)), (2, .int (i32 ((T.2 : Int))))] [] sh g 0 0 _
  refine j_aload_n 1 0 dX8_readSetup_0 rfl rfl ?_
  refine j_aload_n 2 1 dX8_readSetup_1 rfl rfl ?_
  refine j_putr 5 dX8_readSetup_2 rfl fl_X8_18 hr0 rfl (Or.inl rfl) (Or.inr ⟨_, rfl⟩) ?_
  rw [kRd_put]
  have hR := RdS.put hE0 ht htx
  refine j_aload_n 6 0 dX8_readSetup_5 rfl rfl ?_
  refine j_iload_n 7 2 dX8_readSetup_6 rfl rfl ?_
  refine j_puti 10 dX8_readSetup_7 rfl fl_X8_22 hR.rd rfl rfl rfl (r32 (by omega) (by omega)) ?_
  refine j_mn (fun g_7 hg_7 => ?_)
  refine j_aload_n 11 0 dX8_readSetup_10 rfl rfl ?_
  refine j_iconst 12 dX8_readSetup_11 rfl ?_
  refine j_puti 15 dX8_readSetup_12 rfl fl_X8_26 hR.rd rfl rfl rfl (r32 (by decide) (by decide)) ?_
  refine j_mn (fun g_12 hg_12 => ?_)
  refine j_aload_n 16 0 dX8_readSetup_15 rfl rfl ?_
  refine j_iconst 17 dX8_readSetup_16 rfl ?_
  refine j_puti 20 dX8_readSetup_17 rfl fl_X8_29 hR.rd rfl rfl rfl (r32 (by decide) (by decide)) ?_
  refine j_mn (fun g_17 hg_17 => ?_)
  refine j_aload_n 21 0 dX8_readSetup_20 rfl rfl ?_
  refine j_iconst 22 dX8_readSetup_21 rfl ?_
  refine j_puti 25 dX8_readSetup_22 rfl fl_X8_32 hR.rd rfl rfl rfl (r32 (by decide) (by decide)) ?_
  refine j_mn (fun g_22 hg_22 => ?_)
  refine j_aload_n 26 0 dX8_readSetup_25 rfl rfl ?_
  refine j_iconst 27 dX8_readSetup_26 rfl ?_
  refine j_putz 30 dX8_readSetup_27 rfl fl_X8_35 hR.rd rfl rfl rfl (Or.inl rfl) ?_
  refine j_mn (fun g_27 hg_27 => ?_)
  refine j_aload_n 31 0 dX8_readSetup_30 rfl rfl ?_
  refine j_iconst 32 dX8_readSetup_31 rfl ?_
  refine j_putz 35 dX8_readSetup_32 rfl fl_X8_39 hR.rd rfl rfl rfl (Or.inl rfl) ?_
  refine j_mn (fun g_32 hg_32 => ?_)
  refine j_aload_n 36 0 dX8_readSetup_35 rfl rfl ?_
  refine j_iconst 37 dX8_readSetup_36 rfl ?_
  refine j_putz 40 dX8_readSetup_37 rfl fl_X8_42 hR.rd rfl rfl rfl (Or.inl rfl) ?_
  refine j_mn (fun g_37 hg_37 => ?_)
  refine j_aload_n 41 0 dX8_readSetup_40 rfl rfl ?_
  have hX : TxR g_37 R tx T := by rw [hg_37, hg_32, hg_27, hg_22, hg_17, hg_12, hg_7]; exact ⟨hT7, by simp [up2], fun k hk => by rw [up2_a (by omega), up2_a (by omega), up2_a (by omega), up2_a (by omega), up2_a (by omega), up2_a (by omega), up2_a (by omega)]; exact hbt k hk, hTb⟩
  have F0 : FrR g g_37 R := fun a ha => by rw [hg_37, up2_row (by omega), hg_32, up2_row (by omega), hg_27, up2_row (by omega), hg_22, up2_row (by omega), hg_17, up2_row (by omega), hg_12, up2_row (by omega), hg_7, up2_row (by omega)]
  have hI37 : ExI g_37 (R + 1) := hI0.fr (fun a h1 h2 => by rw [hg_37, up2_row (by omega), hg_32, up2_row (by omega), hg_27, up2_row (by omega), hg_22, up2_row (by omega), hg_17, up2_row (by omega), hg_12, up2_row (by omega), hg_7, up2_row (by omega)])
  have hfl : g_37 R 5 = 0 ∧ g_37 R 6 = 0 ∧ g_37 R 7 = 0 ∧ g_37 R 8 = 0 ∧ g_37 R 2 = 0 ∧ g_37 R 1 = -1 := by rw [hg_37, hg_32, hg_27, hg_22, hg_17, hg_12, hg_7]; simp [up2]
  refine j_callV 44 (As := []) (kc2 := 0) (ks2 := 0) dX8_readSetup_41 rfl mvX8_advance lk_X8_45 hR.rd rfl ⟨Nat.le_of_ble_eq_true rfl, rfl⟩ rfl rfl (Nat.le_of_ble_eq_true rfl) ⟨Nat.le_of_ble_eq_true rfl, Nat.le_of_ble_eq_true rfl⟩ ⟨Nat.le_of_ble_eq_true rfl, Nat.le_of_ble_eq_true rfl⟩ (c_advance hR hX (p := 0) hfl.1 (Nat.zero_le _) (by omega)) x_d (k_d0 ?_)
  refine j_mn (fun g1 hg1 => ?_)
  have H1 : MRd g1 R tx T (fun _ => false) (sk T 0) := by rw [hg1]; exact ⟨tokM_X hX (by omega), adv_tok, sk_le (Nat.zero_le _), ⟨by unfold advM; rw [tokM_at]; exact hfl.2.1, by unfold advM; rw [tokM_at]; exact hfl.2.2.1, by unfold advM; rw [tokM_at]; exact hfl.2.2.2.1⟩, by unfold advM; rw [tokM_at]; exact hfl.2.2.2.2.1, by unfold advM; rw [tokM_at]; exact hfl.2.2.2.2.2⟩
  have F1 : FrR g g1 R := by rw [hg1]; exact F0.adv
  have hI1 : ExI g1 (R + 1) := by rw [hg1]; exact hI37.fr (fun a h1 h2 => tokM_o (by omega))
  refine j_aload_n 45 0 dX8_readSetup_44 rfl rfl ?_
  refine j_callV 48 (As := []) (kc2 := 0) (ks2 := 0) dX8_readSetup_45 rfl mvX8_readSize lk_X8_48 hR.rd rfl ⟨Nat.le_of_ble_eq_true rfl, rfl⟩ rfl rfl (Nat.le_of_ble_eq_true rfl) ⟨Nat.le_of_ble_eq_true rfl, Nat.le_of_ble_eq_true rfl⟩ ⟨Nat.le_of_ble_eq_true rfl, Nat.le_of_ble_eq_true rfl⟩ (c_readSize hR htx H1 hI1) x_i (k_i fun z_45 g_45 h_45 => ?_)
  obtain ⟨F45, hcp⟩ := h_45
  rcases hps : P_size T (sk T 0) with r1 | e1
  ·
    rw [hps] at hcp
    obtain ⟨hz45, H2⟩ := hcp
    have F2 := F1.tr F45
    have hL1 := load_o hps
    refine j_top (y := 1) hz45 ?_
    refine j_istore_n 49 (L2 := [(3, .int (i32 (1))), (0, .ref (R)), (1, .ref (tx)), (2, .int (i32 ((T.2 : Int))))]) dX8_readSetup_48 rfl rfl (Nat.le_of_ble_eq_true rfl) rfl ?_
    refine j_iconst 50 dX8_readSetup_49 rfl ?_
    refine j_istore 52 (L2 := [(4, .int (i32 (0))), (3, .int (i32 (1))), (0, .ref (R)), (1, .ref (tx)), (2, .int (i32 ((T.2 : Int))))]) dX8_readSetup_50 rfl (Nat.le_of_ble_eq_true rfl) rfl ?_
    suffices lp_52 : ∀ (n_52 : Nat) (k : Nat) (d : Nat → Int) (s : Nat → Bool) (p : Nat) (gk : Mem), 700 - k < n_52 → k ≤ 700 → CRd gk R tx T d s (sk T p) → FrR g gk R → P_load T = P_all T (700 - k) d s p → J w mX8_readSetup 52 [(4, .int (i32 ((k : Nat) : Int))), (3, .int (i32 1)), (0, .ref (R))] [] (shP sh R (kRd R tx)) gk 0 0 (iQ (shP sh R (kRd R tx)) (CL g R tx T)) by
      refine j_sub [0, 1, 2] rfl ?_
      exact lp_52 _ 0 r1.1 r1.2.1 r1.2.2 _ (Nat.lt_succ_self _) (by decide) H2 F2 hL1
    intro n_52
    induction n_52 with
    | zero => intro k d s p gk h_; exact absurd h_ (Nat.not_lt_zero _)
    | succ n_52 ih_52 =>
      intro k d s p gk hn_52 hk7 HK FK hLk
      have hTb9 := HK.1.2.2.2
      have hkr := kdT_r (T := T) (sk T p)
      obtain ⟨hXk, hkk, hqk, hRk, hPk, hsk, hek⟩ := id HK
      have hsz9 := szT_le hTb9 hqk
      refine j_iload 54 0 dX8_readSetup_52 rfl rfl ?_
      refine j_sipush 57 dX8_readSetup_54 rfl (by decide) ?_
      refine j_icmp_ge 60 97 dX8_readSetup_57 rfl rfl (r32 (by omega) (by omega)) (r32 (by decide) (by decide)) (fun c_57 => ?_) (fun c_57 => ?_)
      · have hend : P_load T = .inl (d, s, p) := hLk.trans (by rw [show 700 - k = 0 by omega]; rfl)
        refine j_aload_n 98 2 dX8_readSetup_97 rfl rfl ?_
        refine j_geti 101 dX8_readSetup_98 rfl fl_X8_29 hR.rd rfl rfl (fun r_98 => ?_)
        exact j_iret dX8_readSetup_101 rfl (⟨_, rfl, rfl, FK, by rw [hend]; exact ⟨HK.2.2.2.2.2.2.1, HK⟩⟩)
      · refine j_iload_n 61 1 dX8_readSetup_60 rfl rfl ?_
        refine j_if_eq 64 97 dX8_readSetup_61 rfl rfl (r32 (by decide) (by decide)) (fun c_61 => absurd c_61 (by decide)) (fun c_61 => ?_)
        refine j_aload_n 65 2 dX8_readSetup_64 rfl rfl ?_
        refine j_geti 68 dX8_readSetup_65 rfl fl_X8_52 hR.rd rfl rfl (fun r_65 => ?_)
        refine j_top (y := kdT T (sk T p)) (HK.2.1.2.1) ?_
        refine j_if_eq 71 97 dX8_readSetup_68 rfl rfl ⟨by omega, by omega⟩ (fun c_68 => ?_) (fun c_68 => ?_)
        · have hend : P_load T = .inl (d, s, p) := hLk.trans (all_e ((kd_E hTb9).mp c_68) _)
          refine j_aload_n 98 2 dX8_readSetup_97 rfl rfl ?_
          refine j_geti 101 dX8_readSetup_98 rfl fl_X8_29 hR.rd rfl rfl (fun r_98 => ?_)
          exact j_iret dX8_readSetup_101 rfl (⟨_, rfl, rfl, FK, by rw [hend]; exact ⟨HK.2.2.2.2.2.2.1, HK⟩⟩)
        · have hne : byT T (sk T p) ≠ -1 := fun z => c_68 ((kd_E hTb9).mpr z)
          obtain ⟨f9, hf9⟩ : ∃ f9, 700 - k = f9 + 1 := ⟨699 - k, by omega⟩
          refine j_aload_n 72 2 dX8_readSetup_71 rfl rfl ?_
          refine j_callV 75 (As := []) (kc2 := 0) (ks2 := 0) dX8_readSetup_72 rfl mvX8_readStatement lk_X8_55 hR.rd rfl ⟨Nat.le_of_ble_eq_true rfl, rfl⟩ rfl rfl (Nat.le_of_ble_eq_true rfl) ⟨Nat.le_of_ble_eq_true rfl, Nat.le_of_ble_eq_true rfl⟩ ⟨Nat.le_of_ble_eq_true rfl, Nat.le_of_ble_eq_true rfl⟩ (c_readStatement hR htx HK) x_i (k_i fun z_72 g_72 h_72 => ?_)
          obtain ⟨F72, hcp7⟩ := h_72
          rcases hps : P_word2 T d s (sk T p) with r7 | e7
          ·
            rw [hps] at hcp7
            obtain ⟨hz72, H7⟩ := hcp7
            have F7 := FK.tr F72
            obtain ⟨hX7, hk7_, hq7, hR7, hP7, hs7, he7⟩ := id H7
            refine j_top (y := 1) hz72 ?_
            refine j_if_eq 78 89 dX8_readSetup_75 rfl rfl (r32 (by decide) (by decide)) (fun c_75 => absurd c_75 (by decide)) (fun c_75 => ?_)
            refine j_aload_n 79 2 dX8_readSetup_78 rfl rfl ?_
            by_cases hC : byT T (sk T r7.2.2) = 59
            ·
              refine j_callV 82 (As := []) (kc2 := 0) (ks2 := 0) dX8_readSetup_79 rfl mvX8_passSemicolon lk_X8_58 hR.rd rfl ⟨Nat.le_of_ble_eq_true rfl, rfl⟩ rfl rfl (Nat.le_of_ble_eq_true rfl) ⟨Nat.le_of_ble_eq_true rfl, Nat.le_of_ble_eq_true rfl⟩ ⟨Nat.le_of_ble_eq_true rfl, Nat.le_of_ble_eq_true rfl⟩ (c_sem1 hR hX7 hk7_ hq7 (by omega) hC) x_d (k_d1 ?_)
              refine j_mn (fun g8 hg8 => ?_)
              have hz7 : szT T (sk T r7.2.2) = 1 := sz_S hTb9 hC
              have H8 : CRd g8 R tx T r7.1 r7.2.1 (sk T (sk T r7.2.2 + 1)) := by rw [hg8]; exact H7.adv htx hz7
              have F8 : FrR g g8 R := by rw [hg8]; exact F7.adv
              refine j_if_eq 85 89 dX8_readSetup_82 rfl rfl (r32 (by decide) (by decide)) (fun c_82 => absurd c_82 (by decide)) (fun c_82 => ?_)
              refine j_iconst 86 dX8_readSetup_85 rfl ?_
              refine j_goto 90 dX8_readSetup_86 rfl ?_
              refine j_istore_n 91 (L2 := [(3, .int (i32 (1))), (4, .int (i32 (((k : Nat) : Int)))), (0, .ref (R))]) dX8_readSetup_90 rfl rfl (Nat.le_of_ble_eq_true rfl) rfl ?_
              refine j_iinc 94 1 (y := ((k : Nat) : Int) + 1) (L2 := [(4, .int (i32 (((k : Nat) : Int) + 1))), (3, .int (i32 (1))), (0, .ref (R))]) dX8_readSetup_91 rfl rfl (by omega) (Nat.le_of_ble_eq_true rfl) rfl ?_
              refine j_goto 52 dX8_readSetup_94 rfl ?_
              refine j_sub [0, 1, 2] rfl ?_
              exact ih_52 (k + 1) r7.1 r7.2.1 (sk T r7.2.2 + 1) _ (by omega) (by omega) H8 F8 (hLk.trans (by rw [hf9, all_o hne hps hC, show 700 - (k + 1) = f9 by omega]))
            ·
              refine j_callV 82 (As := []) (kc2 := 0) (ks2 := 0) dX8_readSetup_79 rfl mvX8_passSemicolon lk_X8_58 hR.rd rfl ⟨Nat.le_of_ble_eq_true rfl, rfl⟩ rfl rfl (Nat.le_of_ble_eq_true rfl) ⟨Nat.le_of_ble_eq_true rfl, Nat.le_of_ble_eq_true rfl⟩ ⟨Nat.le_of_ble_eq_true rfl, Nat.le_of_ble_eq_true rfl⟩ (c_sem2 hR hX7 hk7_ hq7 hC) x_d (k_d1 ?_)
              refine j_mn (fun g8 hg8 => ?_)
              have hB : CBad g8 R (-2) (sk T r7.2.2) := by rw [hg8]; exact fl_bad hR7.1
              have hF : FrR g g8 R := by rw [hg8]; exact F7.fl
              have hL : P_load T = .inr (-2, sk T r7.2.2) := hLk.trans (by rw [hf9]; exact all_s hne hps hC)
              refine j_if_eq 85 89 dX8_readSetup_82 rfl rfl (r32 (by decide) (by decide)) (fun c_82 => ?_) (fun c_82 => absurd c_82 (by decide))
              refine j_iconst 90 dX8_readSetup_89 rfl ?_
              refine j_istore_n 91 (L2 := [(3, .int (i32 (0))), (4, .int (i32 (((k : Nat) : Int)))), (0, .ref (R))]) dX8_readSetup_90 rfl rfl (Nat.le_of_ble_eq_true rfl) rfl ?_
              refine j_iinc 94 1 (y := ((k : Nat) : Int) + 1) (L2 := [(4, .int (i32 (((k : Nat) : Int) + 1))), (3, .int (i32 (0))), (0, .ref (R))]) dX8_readSetup_91 rfl rfl (by omega) (Nat.le_of_ble_eq_true rfl) rfl ?_
              refine j_goto 52 dX8_readSetup_94 rfl ?_
              refine j_iload 54 0 dX8_readSetup_52 rfl rfl ?_
              refine j_sipush 57 dX8_readSetup_54 rfl (by decide) ?_
              refine j_icmp_ge 60 97 dX8_readSetup_57 rfl rfl (r32 (by omega) (by omega)) (r32 (by decide) (by decide)) (fun c_57b => ?_) (fun c_57b => ?_)
              · refine j_aload_n 98 2 dX8_readSetup_97 rfl rfl ?_
                refine j_geti 101 dX8_readSetup_98 rfl fl_X8_29 hR.rd rfl rfl (fun r_98 => ?_)
                exact j_iret dX8_readSetup_101 rfl (⟨_, rfl, rfl, hF, by rw [hL]; exact ⟨hB.1, hB⟩⟩)
              · refine j_iload_n 61 1 dX8_readSetup_60 rfl rfl ?_
                refine j_if_eq 64 97 dX8_readSetup_61 rfl rfl (r32 (by decide) (by decide)) (fun c_61 => ?_) (fun c_61 => absurd c_61 (by decide))
                refine j_aload_n 98 2 dX8_readSetup_97 rfl rfl ?_
                refine j_geti 101 dX8_readSetup_98 rfl fl_X8_29 hR.rd rfl rfl (fun r_98 => ?_)
                exact j_iret dX8_readSetup_101 rfl (⟨_, rfl, rfl, hF, by rw [hL]; exact ⟨hB.1, hB⟩⟩)
          ·
            rw [hps] at hcp7
            obtain ⟨hz72, hB⟩ := hcp7
            have hF := FK.tr F72
            have hL : P_load T = .inr e7 := hLk.trans (by rw [hf9]; exact all_b hne hps)
            refine j_top (y := 0) hz72 ?_
            refine j_if_eq 78 89 dX8_readSetup_75 rfl rfl (r32 (by decide) (by decide)) (fun c_75 => ?_) (fun c_75 => absurd c_75 (by decide))
            refine j_iconst 90 dX8_readSetup_89 rfl ?_
            refine j_istore_n 91 (L2 := [(3, .int (i32 (0))), (4, .int (i32 (((k : Nat) : Int)))), (0, .ref (R))]) dX8_readSetup_90 rfl rfl (Nat.le_of_ble_eq_true rfl) rfl ?_
            refine j_iinc 94 1 (y := ((k : Nat) : Int) + 1) (L2 := [(4, .int (i32 (((k : Nat) : Int) + 1))), (3, .int (i32 (0))), (0, .ref (R))]) dX8_readSetup_91 rfl rfl (by omega) (Nat.le_of_ble_eq_true rfl) rfl ?_
            refine j_goto 52 dX8_readSetup_94 rfl ?_
            refine j_iload 54 0 dX8_readSetup_52 rfl rfl ?_
            refine j_sipush 57 dX8_readSetup_54 rfl (by decide) ?_
            refine j_icmp_ge 60 97 dX8_readSetup_57 rfl rfl (r32 (by omega) (by omega)) (r32 (by decide) (by decide)) (fun c_57b => ?_) (fun c_57b => ?_)
            · refine j_aload_n 98 2 dX8_readSetup_97 rfl rfl ?_
              refine j_geti 101 dX8_readSetup_98 rfl fl_X8_29 hR.rd rfl rfl (fun r_98 => ?_)
              exact j_iret dX8_readSetup_101 rfl (⟨_, rfl, rfl, hF, by rw [hL]; exact ⟨hB.1, hB⟩⟩)
            · refine j_iload_n 61 1 dX8_readSetup_60 rfl rfl ?_
              refine j_if_eq 64 97 dX8_readSetup_61 rfl rfl (r32 (by decide) (by decide)) (fun c_61 => ?_) (fun c_61 => absurd c_61 (by decide))
              refine j_aload_n 98 2 dX8_readSetup_97 rfl rfl ?_
              refine j_geti 101 dX8_readSetup_98 rfl fl_X8_29 hR.rd rfl rfl (fun r_98 => ?_)
              exact j_iret dX8_readSetup_101 rfl (⟨_, rfl, rfl, hF, by rw [hL]; exact ⟨hB.1, hB⟩⟩)
  ·
    rw [hps] at hcp
    obtain ⟨hz45, hB⟩ := hcp
    have hF := F1.tr F45
    have hL := load_b hps
    refine j_top (y := 0) hz45 ?_
    refine j_istore_n 49 (L2 := [(3, .int (i32 (0))), (0, .ref (R)), (1, .ref (tx)), (2, .int (i32 ((T.2 : Int))))]) dX8_readSetup_48 rfl rfl (Nat.le_of_ble_eq_true rfl) rfl ?_
    refine j_iconst 50 dX8_readSetup_49 rfl ?_
    refine j_istore 52 (L2 := [(4, .int (i32 (0))), (3, .int (i32 (0))), (0, .ref (R)), (1, .ref (tx)), (2, .int (i32 ((T.2 : Int))))]) dX8_readSetup_50 rfl (Nat.le_of_ble_eq_true rfl) rfl ?_
    refine j_iload 54 0 dX8_readSetup_52 rfl rfl ?_
    refine j_sipush 57 dX8_readSetup_54 rfl (by decide) ?_
    refine j_icmp_ge 60 97 dX8_readSetup_57 rfl rfl (r32 (by decide) (by decide)) (r32 (by decide) (by decide)) (fun c_57b => ?_) (fun c_57b => ?_)
    · refine j_aload_n 98 2 dX8_readSetup_97 rfl rfl ?_
      refine j_geti 101 dX8_readSetup_98 rfl fl_X8_29 hR.rd rfl rfl (fun r_98 => ?_)
      exact j_iret dX8_readSetup_101 rfl (⟨_, rfl, rfl, hF, by rw [hL]; exact ⟨hB.1, hB⟩⟩)
    · refine j_iload_n 61 1 dX8_readSetup_60 rfl rfl ?_
      refine j_if_eq 64 97 dX8_readSetup_61 rfl rfl (r32 (by decide) (by decide)) (fun c_61 => ?_) (fun c_61 => absurd c_61 (by decide))
      refine j_aload_n 98 2 dX8_readSetup_97 rfl rfl ?_
      refine j_geti 101 dX8_readSetup_98 rfl fl_X8_29 hR.rd rfl rfl (fun r_98 => ?_)
      exact j_iret dX8_readSetup_101 rfl (⟨_, rfl, rfl, hF, by rw [hL]; exact ⟨hB.1, hB⟩⟩)
