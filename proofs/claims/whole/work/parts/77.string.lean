/-! the String constants: their length and their chars, by the JDK's own code -/
theorem st_len_r : ∀ {i}, i < 8 → st_len.getD i 0 ≤ 8 := by decide
section STR
variable {w : Wd} {Y : MD} {pc : Nat} {L : List (Nat × Value)} {S : List Value} {sh : Shp} {g : Mem} {kc ks : Nat} {Q : Post}
theorem w_grow {p : Program} {l : Launch} {e : Env} {s : State} {m : MethodId} {args : Array Value} {below : List Frame} {meth : Method} {c : Code} {H : Heap} {locs : List Loc} {cells slots : Nat} {Z : State → Prop} {R : Room} {f : JFrame}
    (C : JC w Y p l s m args meth c) (hR : Rep w sh g H) (hlo : ∀ z ∈ locs, w.2.2.1 ≤ z.base) (k : va_S (fun q => w.2.2.1 ≤ q) s.heap H locs → W p l e R s m args below meth c H locs cells slots Z f) : W p l e R s m args below meth c H locs cells slots Z f := by
  intro T hT X
  have hgrow : s.heap.size ≤ H.size := by
    rw [← hT]
    exact (vx_frame (U := T) X.same).1
  have hs0 := C.2.2.2.2.2.2.1
  exact k ⟨hgrow, fun q hq hq2 => by rw [hs0 q (by omega)]; exact hR.2.2.1 q (by omega), hlo⟩ T hT X
theorem w_keep {p : Program} {l : Launch} {s : State} {m : MethodId} {args : Array Value} {meth : Method} {c : Code} (C : JC w Y p l s m args meth c) : ∀ a : Nat, a < w.2.2.2.size → ¬ w.2.2.1 ≤ a → s.heap[a]? = w.2.2.2[a]? := fun a _ h => C.2.2.2.2.2.2.1 a (by omega)
theorem w_str {p : Program} {l : Launch} {s : State} {m : MethodId} {args : Array Value} {meth : Method} {c : Code} (C : JC w Y p l s m args meth c) : vk_S 8 st_len st_byt (fun i => w.2.1 (100 + i)) (fun i => w.2.1 (200 + i)) (fun q => w.2.2.1 ≤ q) s s.heap := C.2.2.2.2.2.1.2.2.2.2.2.2.2.1.kept (w_keep C)
theorem j_sval (n : Nat) {idx i : Nat} (hd : decode (md_c Y) pc = .ok (.getfield idx, 3)) (hn : pc + 3 = n) (hl : Cond.fieldLink (md_o Y) idx "java/lang/String" "value" "[B" ∈ lw_good) (hi : i < 8) (kk : J w Y n L (.ref (w.2.1 (200 + i)) :: S) sh g kc ks Q) : J w Y pc L (.ref (w.2.1 (100 + i)) :: S) sh g kc ks Q := by
  subst hn
  intro p l e s m args below meth c H locs cells slots Z ls C hZ hR hlo hcl hsl hll
  refine w_grow C hR hlo (fun hS => ?_)
  exact vk_getf C.1 C.2.1 ((w_str C).1 i hi).2.2.1 hS C.2.2.2.1 (C.2.2.2.2.1 _ hl) (fun x h => h) hd (kk p l e s m args below meth c H locs cells slots Z ls C hZ hR hlo hcl hsl hll)
theorem j_scod (n : Nat) {idx i : Nat} (hd : decode (md_c Y) pc = .ok (.getfield idx, 3)) (hn : pc + 3 = n) (hl : Cond.fieldLink (md_o Y) idx "java/lang/String" "coder" "B" ∈ lw_good) (hi : i < 8) (kk : J w Y n L (.int (i32 0) :: S) sh g kc ks Q) : J w Y pc L (.ref (w.2.1 (100 + i)) :: S) sh g kc ks Q := by
  subst hn
  intro p l e s m args below meth c H locs cells slots Z ls C hZ hR hlo hcl hsl hll
  refine w_grow C hR hlo (fun hS => ?_)
  exact vk_getf C.1 C.2.1 ((w_str C).1 i hi).2.1 hS C.2.2.2.1 (C.2.2.2.2.1 _ hl) (fun x h => h) hd (kk p l e s m args below meth c H locs cells slots Z ls C hZ hR hlo hcl hsl hll)
theorem j_slen (n : Nat) {i : Nat} (hd : decode (md_c Y) pc = .ok (.arraylength, 1)) (hn : pc + 1 = n) (hi : i < 8) (kk : J w Y n L (.int (i32 (st_len.getD i 0 : Nat)) :: S) sh g kc ks Q) : J w Y pc L (.ref (w.2.1 (200 + i)) :: S) sh g kc ks Q := by
  subst hn
  intro p l e s m args below meth c H locs cells slots Z ls C hZ hR hlo hcl hsl hll
  refine w_grow C hR hlo (fun hS => ?_)
  exact va_tlen C.1 C.2.1 ((w_str C).1 i hi).2.2.2 hS rfl hd (kk p l e s m args below meth c H locs cells slots Z ls C hZ hR hlo hcl hsl hll)
theorem j_sld (n : Nat) {i k : Nat} {x : Int} (hd : decode (md_c Y) pc = .ok (.baload, 1)) (hn : pc + 1 = n) (hi : i < 8) (hx : x = (k : Int)) (hk : k < st_len.getD i 0) (hk2 : k < 1000) (kk : J w Y n L (.int ((st_byt.getD i []).getD k 0) :: S) sh g kc ks Q) : J w Y pc L (.int (i32 x) :: .ref (w.2.1 (200 + i)) :: S) sh g kc ks Q := by
  subst hn
  subst hx
  intro p l e s m args below meth c H locs cells slots Z ls C hZ hR hlo hcl hsl hll
  refine w_grow C hR hlo (fun hS => ?_)
  refine va_tb C.1 C.2.1 ((w_str C).1 i hi).2.2.2 hS (vp_in_nI hk (by have := st_len_r hi; omega)) ?_ hd (kk p l e s m args below meth c H locs cells slots Z ls C hZ hR hlo hcl hsl hll)
  rw [i32_clamp rfl (by omega)]
theorem j_compact (n : Nat) {idx : Nat} (hd : decode (md_c Y) pc = .ok (.getstatic idx, 3)) (hn : pc + 3 = n) (hl : Cond.fieldLink (md_o Y) idx "java/lang/String" "COMPACT_STRINGS" "Z" ∈ lw_good) (kk : J w Y n L (.int (i32 1) :: S) sh g kc ks Q) : J w Y pc L S sh g kc ks Q := by
  subst hn
  intro p l e s m args below meth c H locs cells slots Z ls C hZ hR hlo hcl hsl hll
  refine w_grow C hR hlo (fun hS => ?_)
  exact va_gets C.1 C.2.1 (C.2.2.2.2.2.1.2.2.2.2.2.2.2.2.1.kept (w_keep C)) hS C.2.2.2.1 (C.2.2.2.2.1 _ hl) (fun x h => h) hd (kk p l e s m args below meth c H locs cells slots Z ls C hZ hR hlo hcl hsl hll)
theorem j_sioobe (n : Nat) {idx : Nat} (hd : decode (md_c Y) pc = .ok (.getstatic idx, 3)) (hn : pc + 3 = n) (hl : Cond.fieldLink (md_o Y) idx "jdk/internal/util/Preconditions" "SIOOBE_FORMATTER" "Ljava/util/function/BiFunction;" ∈ lw_good) (k0 : J w Y n L (.null :: S) sh g kc ks Q) (k1 : ∀ t, J w Y n L (.ref t :: S) sh g kc ks Q) : J w Y pc L S sh g kc ks Q := by
  subst hn
  intro p l e s m args below meth c H locs cells slots Z ls C hZ hR hlo hcl hsl hll
  refine w_grow C hR hlo (fun hS => ?_)
  rcases C.2.2.2.2.2.1.2.2.2.2.2.2.2.2.2.1 with h | ⟨t, h⟩
  · exact va_gets C.1 C.2.1 (h.kept (w_keep C)) hS C.2.2.2.1 (C.2.2.2.2.1 _ hl) (fun x h => h) hd (k0 p l e s m args below meth c H locs cells slots Z ls C hZ hR hlo hcl hsl hll)
  · exact va_gets C.1 C.2.1 (h.kept (w_keep C)) hS C.2.2.2.1 (C.2.2.2.2.1 _ hl) (fun x h => h) hd (k1 t p l e s m args below meth c H locs cells slots Z ls C hZ hR hlo hcl hsl hll)
/-- ldc of a String constant -/
theorem j_ldcS (n : Nat) {idx i : Nat} {tx : String} (hd : decode (md_c Y) pc = .ok (.ldc idx, 2)) (hn : pc + 2 = n) (hs : (md_o Y, idx, tx, i) ∈ st_all) (kk : J w Y n L (.ref (w.2.1 (100 + i)) :: S) sh g kc ks Q) : J w Y pc L S sh g kc ks Q := by
  subst hn
  intro p l e s m args below meth c H locs cells slots Z ls C hZ hR hlo hcl hsl hll
  exact va_ldcS C.1 C.2.1 C.2.2.2.1 (C.2.2.2.2.2.1.2.2.2.2.2.2.1 _ hs) hd (kk p l e s m args below meth c H locs cells slots Z ls C hZ hR hlo hcl hsl hll)
/-- a call on a String constant -/
theorem j_callT (n : Nat) {idx np i : Nat} {Yc : MD} {As St : List Value} {Qc : Post} {kc2 ks2 : Nat} (hd : decode (md_c Y) pc = .ok (.invokevirtual idx, 3)) (hn : pc + 3 = n) (hm : MV Yc np) (hl : LK (md_o Y) idx Yc) (hi : i < 8) (hcs : (md_y Yc).cls = "java/lang/String") (hA : As.length = np) (hSt : St = As.reverse ++ .ref (w.2.1 (100 + i)) :: S)
    (hrest : (S.map fun v => v.category).sum ≤ 8) (hroom : md_f Yc + 1 ≤ md_f Y ∧ 8 + (md_n Yc + 11) + md_l Yc ≤ md_l Y) (hk : md_mc Yc + kc2 ≤ kc ∧ md_ms Yc + ks2 ≤ ks) (hC : CT w Yc (.ref (w.2.1 (100 + i)) :: As) sh g Qc) (kx : ∀ E sh' g', ¬ Qc (.inr E) sh' g')
    (kk : ∀ v sh' g', Qc (.inl v) sh' g' → J w Y n L (v.toList ++ S) sh' g' kc2 ks2 Q) : J w Y pc L St sh g kc ks Q := by
  subst hn
  intro p l e s m args below meth c H locs cells slots Z ls C hZ hR hlo hcl hsl hll
  obtain ⟨⟨m1, m2, m3, m4⟩, m5, m6, m7⟩ := hm
  rw [mdW_nil m5] at m1
  have hM := hC l C.2.2.2.2.2.2.2.2.2.1
  rw [mdW_nil m5] at hM
  have hG : GoodIn lw_good (wsV (md_o Y) idx (md_y Yc).cls (md_y Yc) (Cond.code (md_y Yc) (md_c Yc) (md_n Yc) (md_r Yc) :: lw_good)) := lg_good (fun x hx => by
    simp only [wsV, List.cons_append, List.nil_append, List.mem_cons] at hx
    rcases hx with rfl | rfl | rfl | rfl | rfl | hx
    · exact hl
    · exact m6
    · exact m7
    · exact m4
    · exact m1
    · exact hx)
  refine w_grow C hR hlo (fun hS => ?_)
  have hrec := vk_recv (w_str C) hi hS
  refine j_back (a9 := (Value.ref (w.2.1 (100 + i)) :: As).toArray) (vx_runV (As := As) (rest := S) (C := (md_y Yc).cls) ⟨C.1, C.2.1, C.2.2.1, C.2.2.2.1, C.2.2.2.2.1⟩ hM (cwV np C.2.2.2.2.1 hG rfl rfl rfl ⟨rfl, m2⟩ hroom) ⟨pc_blind, by rw [hcs]; exact hrec, fun U hU hW => ⟨rfl, WK.warm hW C.2.2.2.2.2.1, by rw [hU]; exact hR⟩⟩ rfl hA hll.1 hSt (lv_room hrest) hd ⟨?_, ?_⟩) kx kk C hZ hlo ?_ ?_ hll
  · show cells + md_mc Yc ≤ md_mc Y; omega
  · show slots + md_ms Yc ≤ md_ms Y; omega
  · omega
  · omega
theorem j_nret {z : Int} {ty : FieldType} (hd : decode (md_c Y) pc = .ok (.ireturn, 1)) (hr : md_r Y = some ty) (hz : narrow ty (.int (i32 z)) = .int (i32 z)) (hq : Q (.inl (some (.int (i32 z)))) sh g) : J w Y pc L [.int (i32 z)] sh g kc ks Q := j_ret (v := some (.int (i32 z))) ⟨hd, Or.inr ⟨ty, hr, hz⟩⟩ hq
theorem j_i2c (n : Nat) {x v : Int32} (hd : decode (md_c Y) pc = .ok (.i2c, 1)) (hn : pc + 1 = n) (hv : (x.toUInt32 % 65536).toInt32 = v) (kk : J w Y n L (.int v :: S) sh g kc ks Q) : J w Y pc L (.int x :: S) sh g kc ks Q := by
  subst hn
  intro p l e s m args below meth c H locs cells slots Z ls C hZ hR hlo hc hs hl
  exact lv_i2c C.1 C.2.1 hd hv (kk p l e s m args below meth c H locs cells slots Z ls C hZ hR hlo hc hs hl)
theorem j_fin {v : Int32} {y : Int} (h : v = i32 y) (kk : J w Y pc L (.int (i32 y) :: S) sh g kc ks Q) : J w Y pc L (.int v :: S) sh g kc ks Q := h ▸ kk
end STR
theorem fv_9 : Cond.fieldLink RJ0 9 "java/lang/String" "value" "[B" ∈ lw_good := by decide +kernel
theorem fc_15 : Cond.fieldLink RJ0 15 "java/lang/String" "coder" "B" ∈ lw_good := by decide +kernel
theorem fz_38 : Cond.fieldLink RJ0 38 "java/lang/String" "COMPACT_STRINGS" "Z" ∈ lw_good := by decide +kernel
theorem fs_1053 : Cond.fieldLink RJ0 1053 "jdk/internal/util/Preconditions" "SIOOBE_FORMATTER" "Ljava/util/function/BiFunction;" ∈ lw_good := by decide +kernel
theorem t_coder {w : Wd} {sh : Shp} {g : Mem} {i : Nat} (hi : i < 8) : CT w mJ0_coder_7d493 [.ref (w.2.1 (100 + i))] sh g (dQ (some (.int (i32 0))) sh g) := by
  refine j_entry (by decide) rfl (Nat.le_of_ble_eq_true rfl) (fun h => by cases h) rfl ?_
  show J w mJ0_coder_7d493 0 [(0, .ref (w.2.1 (100 + i)))] [] sh g 0 0 _
  refine j_compact 3 dJ0_coder_7d493_0 rfl fz_38 ?_
  refine j_if_eq 6 13 dJ0_coder_7d493_3 rfl rfl (r32 (by decide) (by decide)) (fun c => absurd c (by decide)) (fun _ => ?_)
  refine j_aload_n 7 0 dJ0_coder_7d493_6 rfl rfl ?_
  refine j_scod 10 dJ0_coder_7d493_7 rfl fc_15 hi ?_
  refine j_goto 14 dJ0_coder_7d493_10 rfl ?_
  exact j_nret dJ0_coder_7d493_14 rfl (by decide +kernel) ⟨rfl, rfl, rfl⟩
theorem t_isLatin1 {w : Wd} {sh : Shp} {g : Mem} {i : Nat} (hi : i < 8) : CT w mJ0_isLatin1_aae02 [.ref (w.2.1 (100 + i))] sh g (dQ (some (.int (i32 1))) sh g) := by
  refine j_entry (by decide) rfl (Nat.le_of_ble_eq_true rfl) (fun h => by cases h) rfl ?_
  show J w mJ0_isLatin1_aae02 0 [(0, .ref (w.2.1 (100 + i)))] [] sh g 0 0 _
  refine j_compact 3 dJ0_isLatin1_aae02_0 rfl fz_38 ?_
  refine j_if_eq 6 17 dJ0_isLatin1_aae02_3 rfl rfl (r32 (by decide) (by decide)) (fun c => absurd c (by decide)) (fun _ => ?_)
  refine j_aload_n 7 0 dJ0_isLatin1_aae02_6 rfl rfl ?_
  refine j_scod 10 dJ0_isLatin1_aae02_7 rfl fc_15 hi ?_
  refine j_if_ne 13 17 dJ0_isLatin1_aae02_10 rfl rfl (r32 (by decide) (by decide)) (fun c => absurd rfl c) (fun _ => ?_)
  refine j_iconst 14 dJ0_isLatin1_aae02_13 rfl ?_
  refine j_goto 18 dJ0_isLatin1_aae02_14 rfl ?_
  exact j_zret dJ0_isLatin1_aae02_18 rfl (Or.inr rfl) ⟨rfl, rfl, rfl⟩
theorem t_length {w : Wd} {sh : Shp} {g : Mem} {i : Nat} (hi : i < 8) : CT w mJ0_length_8abf5 [.ref (w.2.1 (100 + i))] sh g (dQ (some (.int (i32 (st_len.getD i 0 : Nat)))) sh g) := by
  refine j_entry (by decide) rfl (Nat.le_of_ble_eq_true rfl) (fun h => by cases h) rfl ?_
  show J w mJ0_length_8abf5 0 [(0, .ref (w.2.1 (100 + i)))] [] sh g 0 0 _
  refine j_aload_n 1 0 dJ0_length_8abf5_0 rfl rfl ?_
  refine j_sval 4 dJ0_length_8abf5_1 rfl fv_9 hi ?_
  refine j_slen 5 dJ0_length_8abf5_4 rfl hi ?_
  refine j_aload_n 6 0 dJ0_length_8abf5_5 rfl rfl ?_
  refine j_callT 9 (As := []) (kc2 := 0) (ks2 := 0) dJ0_length_8abf5_6 rfl mvJ0_coder_7d493 lk_J0_335 hi rfl rfl rfl (Nat.le_of_ble_eq_true rfl) ⟨Nat.le_of_ble_eq_true rfl, Nat.le_of_ble_eq_true rfl⟩ ⟨Nat.le_of_ble_eq_true rfl, Nat.le_of_ble_eq_true rfl⟩ (t_coder hi) x_d (k_d1 ?_)
  refine j_ishr 10 dJ0_length_8abf5_9 rfl ?_
  refine j_fin (y := (st_len.getD i 0 : Nat)) ?_ ?_
  · show i32 (st_len.getD i 0 : Nat) >>> (0 &&& 31) = _
    have : ∀ i, i < 8 → i32 (st_len.getD i 0 : Nat) >>> ((0 : Int32) &&& 31) = i32 (st_len.getD i 0 : Nat) := by decide +kernel
    exact this i hi
  · exact j_iret dJ0_length_8abf5_10 rfl ⟨rfl, rfl, rfl⟩
theorem t_preN {w : Wd} {sh : Shp} {g : Mem} {i n : Int} (h : 0 ≤ i ∧ i < n) (hn : n ≤ 1000) : CT w mJ3_checkIndex_8e157 [.int (i32 i), .int (i32 n), .null] sh g (dQ (some (.int (i32 i))) sh g) := by
  refine j_entry (by decide) rfl (Nat.le_of_ble_eq_true rfl) (fun h => by cases h) rfl ?_
  show J w mJ3_checkIndex_8e157 0 [(0, .int (i32 i)), (1, .int (i32 n)), (2, .null)] [] sh g 0 0 _
  refine j_iload_n 1 0 dJ3_checkIndex_8e157_0 rfl rfl ?_
  refine j_if_lt 4 9 dJ3_checkIndex_8e157_1 rfl rfl (r32 (by omega) (by omega)) (fun c => absurd c (by omega)) (fun _ => ?_)
  refine j_iload_n 5 0 dJ3_checkIndex_8e157_4 rfl rfl ?_
  refine j_iload_n 6 1 dJ3_checkIndex_8e157_5 rfl rfl ?_
  refine j_icmp_lt 9 16 dJ3_checkIndex_8e157_6 rfl rfl (r32 (by omega) (by omega)) (r32 (by omega) (by omega)) (fun _ => ?_) (fun c => absurd h.2 c)
  refine j_iload_n 17 0 dJ3_checkIndex_8e157_16 rfl rfl ?_
  exact j_iret dJ3_checkIndex_8e157_17 rfl ⟨rfl, rfl, rfl⟩
theorem t_preR {w : Wd} {sh : Shp} {g : Mem} {i n : Int} {t : Nat} (h : 0 ≤ i ∧ i < n) (hn : n ≤ 1000) : CT w mJ3_checkIndex_8e157 [.int (i32 i), .int (i32 n), .ref t] sh g (dQ (some (.int (i32 i))) sh g) := by
  refine j_entry (by decide) rfl (Nat.le_of_ble_eq_true rfl) (fun h => by cases h) rfl ?_
  show J w mJ3_checkIndex_8e157 0 [(0, .int (i32 i)), (1, .int (i32 n)), (2, .ref t)] [] sh g 0 0 _
  refine j_iload_n 1 0 dJ3_checkIndex_8e157_0 rfl rfl ?_
  refine j_if_lt 4 9 dJ3_checkIndex_8e157_1 rfl rfl (r32 (by omega) (by omega)) (fun c => absurd c (by omega)) (fun _ => ?_)
  refine j_iload_n 5 0 dJ3_checkIndex_8e157_4 rfl rfl ?_
  refine j_iload_n 6 1 dJ3_checkIndex_8e157_5 rfl rfl ?_
  refine j_icmp_lt 9 16 dJ3_checkIndex_8e157_6 rfl rfl (r32 (by omega) (by omega)) (r32 (by omega) (by omega)) (fun _ => ?_) (fun c => absurd h.2 c)
  refine j_iload_n 17 0 dJ3_checkIndex_8e157_16 rfl rfl ?_
  exact j_iret dJ3_checkIndex_8e157_17 rfl ⟨rfl, rfl, rfl⟩
theorem t_check {w : Wd} {sh : Shp} {g : Mem} {i n : Int} (h : 0 ≤ i ∧ i < n) (hn : n ≤ 1000) : CT w mJ0_checkIndex_df160 [.int (i32 i), .int (i32 n)] sh g (dQ none sh g) := by
  refine j_entry (by decide) rfl (Nat.le_of_ble_eq_true rfl) (fun h => by cases h) rfl ?_
  show J w mJ0_checkIndex_df160 0 [(0, .int (i32 i)), (1, .int (i32 n))] [] sh g 0 0 _
  refine j_iload_n 1 0 dJ0_checkIndex_df160_0 rfl rfl ?_
  refine j_iload_n 2 1 dJ0_checkIndex_df160_1 rfl rfl ?_
  refine j_sioobe 5 dJ0_checkIndex_df160_2 rfl fs_1053 ?_ (fun t => ?_)
  · refine j_callS 8 (As := [.int (i32 i), .int (i32 n), .null]) (kc2 := 0) (ks2 := 0) dJ0_checkIndex_df160_5 rfl msJ3_checkIndex_8e157 lk_J0_1059 rfl rfl (Nat.le_of_ble_eq_true rfl) ⟨Nat.le_of_ble_eq_true rfl, Nat.le_of_ble_eq_true rfl⟩ ⟨Nat.le_of_ble_eq_true rfl, Nat.le_of_ble_eq_true rfl⟩ (t_preN h hn) x_d (k_d1 ?_)
    refine j_pop 9 dJ0_checkIndex_df160_8 rfl rfl ?_
    exact j_vret dJ0_checkIndex_df160_9 rfl ⟨rfl, rfl, rfl⟩
  · refine j_callS 8 (As := [.int (i32 i), .int (i32 n), .ref t]) (kc2 := 0) (ks2 := 0) dJ0_checkIndex_df160_5 rfl msJ3_checkIndex_8e157 lk_J0_1059 rfl rfl (Nat.le_of_ble_eq_true rfl) ⟨Nat.le_of_ble_eq_true rfl, Nat.le_of_ble_eq_true rfl⟩ ⟨Nat.le_of_ble_eq_true rfl, Nat.le_of_ble_eq_true rfl⟩ (t_preR h hn) x_d (k_d1 ?_)
    refine j_pop 9 dJ0_checkIndex_df160_8 rfl rfl ?_
    exact j_vret dJ0_checkIndex_df160_9 rfl ⟨rfl, rfl, rfl⟩
/-- the char at k of the String i -/
def sc (i k : Nat) : Int := ((st_byt.getD i []).getD k 0).toInt
theorem sc_ok : ∀ i, i < 8 → ∀ k, k < 8 → ((((st_byt.getD i []).getD k 0) &&& i32 255).toUInt32 % 65536).toInt32 = i32 (sc i k) ∧ narrow .char (.int (i32 (sc i k))) = .int (i32 (sc i k)) := by decide +kernel
theorem t_latin {w : Wd} {sh : Shp} {g : Mem} {i k : Nat} (hi : i < 8) (hk : k < st_len.getD i 0) : CT w mJ1_charAt_3b067 [.ref (w.2.1 (200 + i)), .int (i32 (k : Int))] sh g (dQ (some (.int (i32 (sc i k)))) sh g) := by
  have hl := st_len_r hi
  obtain ⟨s1, s2⟩ := sc_ok i hi k (by omega)
  refine j_entry (by decide) rfl (Nat.le_of_ble_eq_true rfl) (fun h => by cases h) rfl ?_
  show J w mJ1_charAt_3b067 0 [(0, .ref (w.2.1 (200 + i))), (1, .int (i32 (k : Int)))] [] sh g 0 0 _
  refine j_iload_n 1 1 dJ1_charAt_3b067_0 rfl rfl ?_
  refine j_aload_n 2 0 dJ1_charAt_3b067_1 rfl rfl ?_
  refine j_slen 3 dJ1_charAt_3b067_2 rfl hi ?_
  refine j_callS 6 (As := [.int (i32 (k : Int)), .int (i32 (st_len.getD i 0 : Nat))]) (kc2 := 0) (ks2 := 0) dJ1_charAt_3b067_3 rfl msJ0_checkIndex_df160 lk_J1_9 rfl rfl (Nat.le_of_ble_eq_true rfl) ⟨Nat.le_of_ble_eq_true rfl, Nat.le_of_ble_eq_true rfl⟩ ⟨Nat.le_of_ble_eq_true rfl, Nat.le_of_ble_eq_true rfl⟩ (t_check (by omega) (by omega)) x_d (k_d0 ?_)
  refine j_aload_n 7 0 dJ1_charAt_3b067_6 rfl rfl ?_
  refine j_iload_n 8 1 dJ1_charAt_3b067_7 rfl rfl ?_
  refine j_sld 9 dJ1_charAt_3b067_8 rfl hi rfl hk (by omega) ?_
  refine j_sipush 12 dJ1_charAt_3b067_9 rfl (by decide) ?_
  refine j_iand 13 dJ1_charAt_3b067_12 rfl ?_
  refine j_i2c 14 dJ1_charAt_3b067_13 rfl s1 ?_
  exact j_nret dJ1_charAt_3b067_14 rfl s2 ⟨rfl, rfl, rfl⟩
theorem t_charAt {w : Wd} {sh : Shp} {g : Mem} {i k : Nat} (hi : i < 8) (hk : k < st_len.getD i 0) : CT w mJ0_charAt_5068e [.ref (w.2.1 (100 + i)), .int (i32 (k : Int))] sh g (dQ (some (.int (i32 (sc i k)))) sh g) := by
  have hl := st_len_r hi
  obtain ⟨s1, s2⟩ := sc_ok i hi k (by omega)
  refine j_entry (by decide) rfl (Nat.le_of_ble_eq_true rfl) (fun h => by cases h) rfl ?_
  show J w mJ0_charAt_5068e 0 [(0, .ref (w.2.1 (100 + i))), (1, .int (i32 (k : Int)))] [] sh g 0 0 _
  refine j_aload_n 1 0 dJ0_charAt_5068e_0 rfl rfl ?_
  refine j_callT 4 (As := []) (kc2 := 0) (ks2 := 0) dJ0_charAt_5068e_1 rfl mvJ0_isLatin1_aae02 lk_J0_492 hi rfl rfl rfl (Nat.le_of_ble_eq_true rfl) ⟨Nat.le_of_ble_eq_true rfl, Nat.le_of_ble_eq_true rfl⟩ ⟨Nat.le_of_ble_eq_true rfl, Nat.le_of_ble_eq_true rfl⟩ (t_isLatin1 hi) x_d (k_d1 ?_)
  refine j_if_eq 7 16 dJ0_charAt_5068e_4 rfl rfl (r32 (by decide) (by decide)) (fun c => absurd c (by decide)) (fun _ => ?_)
  refine j_aload_n 8 0 dJ0_charAt_5068e_7 rfl rfl ?_
  refine j_sval 11 dJ0_charAt_5068e_8 rfl fv_9 hi ?_
  refine j_iload_n 12 1 dJ0_charAt_5068e_11 rfl rfl ?_
  refine j_callS 15 (As := [.ref (w.2.1 (200 + i)), .int (i32 (k : Int))]) (kc2 := 0) (ks2 := 0) dJ0_charAt_5068e_12 rfl msJ1_charAt_3b067 lk_J0_495 rfl rfl (Nat.le_of_ble_eq_true rfl) ⟨Nat.le_of_ble_eq_true rfl, Nat.le_of_ble_eq_true rfl⟩ ⟨Nat.le_of_ble_eq_true rfl, Nat.le_of_ble_eq_true rfl⟩ (t_latin hi hk) x_d (k_d1 ?_)
  exact j_nret dJ0_charAt_5068e_15 rfl s2 ⟨rfl, rfl, rfl⟩
