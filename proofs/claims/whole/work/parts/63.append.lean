/-! bytes of a word; append and errorOffset of the class -/
def sb (z : Int) : Int := if z < 128 then z else z - 256
def wb (x : Int) (k : Nat) : Int := if k = 0 then x / 16777216 % 256 else if k = 1 then x / 65536 % 256 else if k = 2 then x / 256 % 256 else x % 256
theorem wb_r (x : Int) (k : Nat) : 0 ≤ wb x k ∧ wb x k ≤ 255 := by unfold wb; split; omega; split; omega; split <;> omega
theorem sb_r {z : Int} (h : 0 ≤ z ∧ z ≤ 255) : -128 ≤ sb z ∧ sb z ≤ 127 := by unfold sb; split <;> omega
theorem i32_un {x : Int} (hx : R32 x) : (i32 x).toBitVec.toNat = (x % 4294967296).toNat := by
  show (BitVec.ofInt 32 x).toNat = _
  rw [BitVec.toNat_ofInt]
  rfl
theorem bmod_b (z : Int) : Int.bmod z 256 = if z % 256 < 128 then z % 256 else z % 256 - 256 := rfl
theorem bmod_i (z : Int) : Int.bmod z 4294967296 = if z % 4294967296 < 2147483648 then z % 4294967296 else z % 4294967296 - 4294967296 := rfl
theorem u8_of {v : Int32} {n : Nat} (h : v.toBitVec.toNat = n) (hn : n < 4294967296) : v.toInt8.toInt32 = i32 (sb ((n : Int) % 256)) := by
  apply Int32.toInt_inj.mp
  have e1 : v.toInt8.toInt32.toInt = v.toInt.bmod 256 := by
    rw [Int8.toInt_toInt32, Int32.toInt_toInt8]
  have e2 : v.toInt = Int.bmod (n : Int) 4294967296 := by
    show v.toBitVec.toInt = _
    rw [BitVec.toInt_eq_toNat_bmod, h]
  have hs := sb_r (z := (n : Int) % 256) (by omega)
  rw [e1, e2, i32_toInt ⟨by omega, by omega⟩]
  unfold sb
  rw [bmod_i, bmod_b]
  split <;> split <;> split <;> omega
theorem wb_cls {x : Int} (hx : R32 x) : ∀ {k : Nat}, k < 4 → ((i32 x).toUInt32 >>> ((i32 (24 - 8 * (k : Int))).toUInt32 &&& Int32.toUInt32 31)).toInt32.toInt8.toInt32 = i32 (sb (wb x k)) := by
  intro k hk
  have hu := i32_un hx
  match k, hk with
  | 0, _ =>
    have h := pk_ushr (i32 x) (i32 24) 24 (by decide +kernel)
    rw [hu] at h
    have h2 := u8_of h (by omega)
    show ((i32 x).toUInt32 >>> ((i32 24).toUInt32 &&& Int32.toUInt32 31)).toInt32.toInt8.toInt32 = _
    rw [h2]
    congr 2
    show _ = x / 16777216 % 256
    omega
  | 1, _ =>
    have h := pk_ushr (i32 x) (i32 16) 16 (by decide +kernel)
    rw [hu] at h
    have h2 := u8_of h (by omega)
    show ((i32 x).toUInt32 >>> ((i32 16).toUInt32 &&& Int32.toUInt32 31)).toInt32.toInt8.toInt32 = _
    rw [h2]
    congr 2
    show _ = x / 65536 % 256
    omega
  | 2, _ =>
    have h := pk_ushr (i32 x) (i32 8) 8 (by decide +kernel)
    rw [hu] at h
    have h2 := u8_of h (by omega)
    show ((i32 x).toUInt32 >>> ((i32 8).toUInt32 &&& Int32.toUInt32 31)).toInt32.toInt8.toInt32 = _
    rw [h2]
    congr 2
    show _ = x / 256 % 256
    omega
  | 3, _ =>
    have h := pk_ushr (i32 x) (i32 0) 0 (by decide +kernel)
    rw [hu] at h
    have h2 := u8_of h (by omega)
    show ((i32 x).toUInt32 >>> ((i32 0).toUInt32 &&& Int32.toUInt32 31)).toInt32.toInt8.toInt32 = _
    rw [h2]
    congr 2
    show _ = x % 256
    omega
theorem and255 {y : Int32} : y &&& i32 255 = i32 (y.toInt % 256) := by
  apply Int32.toInt_inj.mp
  have h0 : 0 ≤ y.toInt % 256 ∧ y.toInt % 256 < 256 := by omega
  rw [i32_toInt ⟨by omega, by omega⟩]
  have e1 : (y &&& i32 255).toBitVec.toNat = y.toBitVec.toNat % 256 := by
    show (y.toBitVec &&& (255#32)).toNat = _
    rw [BitVec.toNat_and]
    show y.toBitVec.toNat &&& 2 ^ 8 - 1 = _
    rw [Nat.and_two_pow_sub_one_eq_mod]
  show (y &&& i32 255).toBitVec.toInt = _
  have e2 : y.toInt = Int.bmod (y.toBitVec.toNat : Int) 4294967296 := by
    show y.toBitVec.toInt = _
    rw [BitVec.toInt_eq_toNat_bmod]
  rw [BitVec.toInt_eq_toNat_bmod, e1, e2]
  have hl := y.toBitVec.isLt
  rw [show (2 ^ 32 : Nat) = 4294967296 from rfl, bmod_i, bmod_i]
  split <;> split <;> omega
theorem wb_ref {x : Int} (hx : R32 x) : ∀ {k : Nat}, k < 4 → (i32 x >>> (i32 (24 - 8 * (k : Int)) &&& 31)) &&& i32 255 = i32 (wb x k) := by
  intro k hk
  rw [and255]
  congr 1
  match k, hk with
  | 0, _ => rw [show i32 (24 - 8 * ((0 : Nat) : Int)) &&& 31 = i32 24 from by decide +kernel, pk_shr _ _ 24 (by decide +kernel), i32_toInt hx, Int.shiftRight_eq_div_pow]; rfl
  | 1, _ => rw [show i32 (24 - 8 * ((1 : Nat) : Int)) &&& 31 = i32 16 from by decide +kernel, pk_shr _ _ 16 (by decide +kernel), i32_toInt hx, Int.shiftRight_eq_div_pow]; rfl
  | 2, _ => rw [show i32 (24 - 8 * ((2 : Nat) : Int)) &&& 31 = i32 8 from by decide +kernel, pk_shr _ _ 8 (by decide +kernel), i32_toInt hx, Int.shiftRight_eq_div_pow]; rfl
  | 3, _ => rw [show i32 (24 - 8 * ((3 : Nat) : Int)) &&& 31 = i32 0 from by decide +kernel, pk_shr _ _ 0 (by decide +kernel), i32_toInt hx, Int.shiftRight_eq_div_pow]; show x / 1 % 256 = x % 256; omega
section JI
variable {w : Wd} {Y : MD} {pc : Nat} {L : List (Nat × Value)} {S : List Value} {sh : Shp} {g : Mem} {kc ks : Nat} {Q : Post}
theorem j_topI {v : Int32} {y : Int} (h : v = i32 y) (kk : J w Y pc L (.int (i32 y) :: S) sh g kc ks Q) : J w Y pc L (.int v :: S) sh g kc ks Q := h ▸ kk
end JI
/-- the buffer with k bytes of a word more -/
def pwN (g : Mem) (B nb : Nat) (x : Int) (k : Nat) : Mem := fun a j => if a = B ∧ j = 1 then ((nb + k : Nat) : Int) else if a = B + 1 ∧ nb ≤ j ∧ j < nb + k then sb (wb x (j - nb)) else g a j
section PW
variable {g : Mem} {B nb k : Nat} {x : Int}
theorem pwN_0 (h : g B 1 = (nb : Int)) : pwN g B nb x 0 = g := by
  funext a j
  unfold pwN
  split
  · next q => rw [q.1, q.2, h]; rfl
  · rw [if_neg (by omega)]
theorem pwN_s : up2 (up2 (pwN g B nb x k) (B + 1) (nb + k) (sb (wb x k))) B 1 ((nb + k : Nat) + 1 : Int) = pwN g B nb x (k + 1) := by
  funext a j
  by_cases h1 : a = B ∧ j = 1
  · obtain ⟨rfl, rfl⟩ := h1; rw [up2_s]; unfold pwN; rw [if_pos ⟨rfl, rfl⟩]; omega
  · have e1 : up2 (up2 (pwN g B nb x k) (B + 1) (nb + k) (sb (wb x k))) B 1 ((nb + k : Nat) + 1 : Int) a j = up2 (pwN g B nb x k) (B + 1) (nb + k) (sb (wb x k)) a j := if_neg h1
    rw [e1]
    unfold pwN
    rw [if_neg h1]
    by_cases h2 : a = B + 1 ∧ j = nb + k
    · obtain ⟨rfl, rfl⟩ := h2; rw [up2_s, if_pos ⟨rfl, by omega, by omega⟩, show nb + k - nb = k by omega]
    · have e2 : ∀ (f : Mem), up2 f (B + 1) (nb + k) (sb (wb x k)) a j = f a j := fun f => if_neg h2
      rw [e2]
      show (if a = B ∧ j = 1 then _ else _) = _
      rw [if_neg h1]
      by_cases h3 : a = B + 1 ∧ nb ≤ j ∧ j < nb + k
      · rw [if_pos h3, if_pos ⟨h3.1, h3.2.1, by omega⟩]
      · rw [if_neg h3, if_neg (fun q => h3 ⟨q.1, q.2.1, by omega⟩)]
theorem pwN_1 : pwN g B nb x k B 1 = ((nb + k : Nat) : Int) := if_pos ⟨rfl, rfl⟩
theorem pwN_o {a : Nat} (h1 : a ≠ B) (h2 : a ≠ B + 1) : pwN g B nb x k a = g a := funext fun j => by unfold pwN; rw [if_neg (fun q => h1 q.1), if_neg (fun q => h2 q.1)]
theorem pwN_B {j : Nat} (h : j ≠ 1) : pwN g B nb x k B j = g B j := by unfold pwN; rw [if_neg (fun q => h q.2), if_neg (by omega)]
theorem pwN_b {j : Nat} : pwN g B nb x k (B + 1) j = if nb ≤ j ∧ j < nb + k then sb (wb x (j - nb)) else g (B + 1) j := by
  unfold pwN
  rw [if_neg (by omega)]
  by_cases h : nb ≤ j ∧ j < nb + k
  · rw [if_pos ⟨rfl, h⟩, if_pos h]
  · rw [if_neg (fun q => h q.2), if_neg h]
end PW
/-- the byte at k of five words -/
def apb (w0 w1 w2 w3 w4 : Int) (k : Nat) : Int := if k < 4 then wb w0 k else if k < 8 then wb w1 (k - 4) else if k < 12 then wb w2 (k - 8) else if k < 16 then wb w3 (k - 12) else wb w4 (k - 16)

set_option maxRecDepth 20000 in
theorem c_putWord {w : Wd} {sh : Shp} {g : Mem} {B : Nat} (hB : CxS sh.1 B) {nb : Nat} {x : Int} (hx : R32 x) (h1 : g B 1 = (nb : Int)) (hn : nb + 4 ≤ 700) : CT w mX9_putWord [.ref (B), .int (i32 (x))] sh g (dQ none sh (pwN g B nb x 4)) := by
  refine j_entry (by decide) rfl (Nat.le_of_ble_eq_true rfl) (fun h => by cases h) rfl ?_
  show J w mX9_putWord 0 [(0, .ref (B)), (1, .int (i32 (x)))] [] sh g 0 0 _
  refine j_mem (pwN_0 (x := x) h1).symm ?_
  refine j_bipush 2 dX9_putWord_0 rfl (by decide) ?_
  refine j_istore_n 3 (L2 := [(2, .int (i32 (24))), (0, .ref (B)), (1, .int (i32 (x)))]) dX9_putWord_2 rfl rfl (Nat.le_of_ble_eq_true rfl) rfl ?_
  suffices lp_3 : ∀ (n_3 : Nat) (k : Nat), 4 - k < n_3 → k ≤ 4 → J w mX9_putWord 3 [(2, .int (i32 (24 - 8 * (k : Int)))), (0, .ref (B)), (1, .int (i32 (x)))] [] sh (pwN g B nb x k) 0 0 (dQ none sh (pwN g B nb x 4)) by
    exact lp_3 _ 0 (Nat.lt_succ_self _) (by omega)
  intro n_3
  induction n_3 with
  | zero => intro k h_; exact absurd h_ (Nat.not_lt_zero _)
  | succ n_3 ih_3 =>
    intro k hn_3 hk
    refine j_iload_n 4 0 dX9_putWord_3 rfl rfl ?_
    refine j_if_lt 7 55 dX9_putWord_4 rfl rfl (r32 (by omega) (by omega)) (fun c_4 => ?_) (fun c_4 => ?_)
    · exact j_vret dX9_putWord_55 rfl (q_m (by rw [show k = 4 by omega]))
    · refine j_aload_n 8 1 dX9_putWord_7 rfl rfl ?_
      refine j_geti 11 dX9_putWord_8 rfl fl_X9_13 hB.cx rfl rfl (fun r_8 => ?_)
      refine j_top (y := ((nb + k : Nat) : Int)) (pwN_1) ?_
      refine j_if_lt 14 49 dX9_putWord_11 rfl rfl (r32 (by omega) (by omega)) (fun c_11 => absurd c_11 (by omega)) (fun c_11 => ?_)
      refine j_aload_n 15 1 dX9_putWord_14 rfl rfl ?_
      refine j_geti 18 dX9_putWord_15 rfl fl_X9_13 hB.cx rfl rfl (fun r_15 => ?_)
      refine j_top (y := ((nb + k : Nat) : Int)) (pwN_1) ?_
      refine j_aload_n 19 1 dX9_putWord_18 rfl rfl ?_
      refine j_getr 22 dX9_putWord_19 rfl fl_X9_9 hB.cx rfl (fun _ _ => rfl) rfl ?_
      refine j_alen 23 dX9_putWord_22 rfl hB.buf (Nat.le_of_ble_eq_true rfl) rfl ?_
      refine j_top (y := 700) rfl ?_
      refine j_icmp_ge 26 49 dX9_putWord_23 rfl rfl (r32 (by omega) (by omega)) (r32 (by decide) (by decide)) (fun c_23 => absurd c_23 (by omega)) (fun c_23 => ?_)
      refine j_aload_n 27 1 dX9_putWord_26 rfl rfl ?_
      refine j_getr 30 dX9_putWord_27 rfl fl_X9_9 hB.cx rfl (fun _ _ => rfl) rfl ?_
      refine j_aload_n 31 1 dX9_putWord_30 rfl rfl ?_
      refine j_geti 34 dX9_putWord_31 rfl fl_X9_13 hB.cx rfl rfl (fun r_31 => ?_)
      refine j_top (y := ((nb + k : Nat) : Int)) (pwN_1) ?_
      refine j_iload_n 35 2 dX9_putWord_34 rfl rfl ?_
      refine j_iload_n 36 0 dX9_putWord_35 rfl rfl ?_
      refine j_iushr 37 dX9_putWord_36 rfl rfl ?_
      refine j_i2b 38 dX9_putWord_37 rfl (wb_cls hx (by omega)) ?_
      refine j_bast 39 (nb + k) dX9_putWord_38 rfl hB.buf rfl rfl (show nb + k < 700 by omega) (sb_r (wb_r x k)) ?_
      refine j_aload_n 40 1 dX9_putWord_39 rfl rfl ?_
      refine j_dup 41 dX9_putWord_40 rfl rfl ?_
      refine j_geti 44 dX9_putWord_41 rfl fl_X9_13 hB.cx rfl rfl (fun r_41 => ?_)
      refine j_top (y := ((nb + k : Nat) : Int)) ((up2_a (by omega)).trans pwN_1) ?_
      refine j_iconst 45 dX9_putWord_44 rfl ?_
      refine j_iadd 46 dX9_putWord_45 rfl ?_
      refine j_puti 49 dX9_putWord_46 rfl fl_X9_13 hB.cx rfl rfl rfl (r32 (by omega) (by omega)) ?_
      refine j_mn (fun g_46 hg_46 => ?_)
      refine j_iinc 52 0 (y := 24 - 8 * ((k + 1 : Nat) : Int)) (L2 := [(2, .int (i32 (24 - 8 * ((k + 1 : Nat) : Int)))), (0, .ref (B)), (1, .int (i32 (x)))]) dX9_putWord_49 rfl rfl (by omega) (Nat.le_of_ble_eq_true rfl) rfl ?_
      refine j_goto 3 dX9_putWord_52 rfl ?_
      rw [hg_46, pwN_s]
      exact ih_3 (k + 1) (by omega) (by omega)

theorem ap_row {g : Mem} {B nb : Nat} {w0 w1 w2 w3 w4 : Int} (j : Nat) : (pwN (pwN (pwN (pwN (pwN g B nb w0 4) B (nb + 4) w1 4) B (nb + 8) w2 4) B (nb + 12) w3 4) B (nb + 16) w4 4) (B + 1) j = if nb ≤ j ∧ j < nb + 20 then sb (apb w0 w1 w2 w3 w4 (j - nb)) else g (B + 1) j := by
  rw [pwN_b, pwN_b, pwN_b, pwN_b, pwN_b]
  unfold apb
  by_cases c0 : nb ≤ j ∧ j < nb + 20
  · rw [if_pos c0]
    by_cases c1 : j < nb + 4
    · rw [if_neg (by omega), if_neg (by omega), if_neg (by omega), if_neg (by omega), if_pos (by omega), if_pos (by omega)]
    by_cases c2 : j < nb + 8
    · rw [if_neg (by omega), if_neg (by omega), if_neg (by omega), if_pos (by omega), if_neg (by omega), if_pos (by omega), show j - (nb + 4) = j - nb - 4 by omega]
    by_cases c3 : j < nb + 12
    · rw [if_neg (by omega), if_neg (by omega), if_pos (by omega), if_neg (by omega), if_neg (by omega), if_pos (by omega), show j - (nb + 8) = j - nb - 8 by omega]
    by_cases c4 : j < nb + 16
    · rw [if_neg (by omega), if_pos (by omega), if_neg (by omega), if_neg (by omega), if_neg (by omega), if_pos (by omega), show j - (nb + 12) = j - nb - 12 by omega]
    · rw [if_pos (by omega), if_neg (by omega), if_neg (by omega), if_neg (by omega), if_neg (by omega), show j - (nb + 16) = j - nb - 16 by omega]
  · rw [if_neg c0, if_neg (by omega), if_neg (by omega), if_neg (by omega), if_neg (by omega), if_neg (by omega)]

set_option maxRecDepth 20000 in
theorem c_append1 {w : Wd} {sh : Shp} {g : Mem} {B : Nat} (hB : CxS sh.1 B) {nb : Nat} {w0 w1 w2 w3 w4 : Int} (hw0 : R32 w0) (hw1 : R32 w1) (hw2 : R32 w2) (hw3 : R32 w3) (hw4 : R32 w4) (h1 : g B 1 = (nb : Int)) (hn0 : nb ≤ 700) (hn : nb + 20 ≤ 700) : CT w mX9_append [.ref (B), .int (i32 (w0)), .int (i32 (w1)), .int (i32 (w2)), .int (i32 (w3)), .int (i32 (w4))] sh g (iQ sh (fun z g2 => z = ((nb + 20 : Nat) : Int) ∧ g2 B 1 = ((nb + 20 : Nat) : Int) ∧ (∀ j, g2 (B + 1) j = if nb ≤ j ∧ j < nb + 20 then sb (apb w0 w1 w2 w3 w4 (j - nb)) else g (B + 1) j) ∧ (∀ a, a ≠ B → a ≠ B + 1 → g2 a = g a) ∧ ∀ j, j ≠ 1 → g2 B j = g B j)) := by
  refine j_entry (by decide) rfl (Nat.le_of_ble_eq_true rfl) (fun h => by cases h) rfl ?_
  show J w mX9_append 0 [(0, .ref (B)), (1, .int (i32 (w0))), (2, .int (i32 (w1))), (3, .int (i32 (w2))), (4, .int (i32 (w3))), (5, .int (i32 (w4)))] [] sh g 0 0 _
  refine j_aload_n 1 0 dX9_append_0 rfl rfl ?_
  refine j_geti 4 dX9_append_1 rfl fl_X9_13 hB.cx rfl rfl (fun r_1 => ?_)
  refine j_top (y := (nb : Int)) (h1) ?_
  refine j_bipush 6 dX9_append_4 rfl (by decide) ?_
  refine j_iadd 7 dX9_append_6 rfl ?_
  refine j_sipush 10 dX9_append_7 rfl (by decide) ?_
  refine j_icmp_le 13 15 dX9_append_10 rfl rfl (r32 (by omega) (by omega)) (r32 (by decide) (by decide)) (fun c_10 => ?_) (fun c_10 => absurd c_10 (by omega))
  refine j_aload_n 16 0 dX9_append_15 rfl rfl ?_
  refine j_iload_n 17 1 dX9_append_16 rfl rfl ?_
  refine j_callV 20 (As := [.int (i32 (w0))]) (kc2 := 0) (ks2 := 0) dX9_append_17 rfl mvX9_putWord lk_X9_44 hB.cx rfl ⟨Nat.le_of_ble_eq_true rfl, rfl⟩ rfl rfl (Nat.le_of_ble_eq_true rfl) ⟨Nat.le_of_ble_eq_true rfl, Nat.le_of_ble_eq_true rfl⟩ ⟨Nat.le_of_ble_eq_true rfl, Nat.le_of_ble_eq_true rfl⟩ (c_putWord hB (nb := nb) hw0 h1 (by omega)) x_d (k_d0 ?_)
  refine j_aload_n 21 0 dX9_append_20 rfl rfl ?_
  refine j_iload_n 22 2 dX9_append_21 rfl rfl ?_
  refine j_callV 25 (As := [.int (i32 (w1))]) (kc2 := 0) (ks2 := 0) dX9_append_22 rfl mvX9_putWord lk_X9_44 hB.cx rfl ⟨Nat.le_of_ble_eq_true rfl, rfl⟩ rfl rfl (Nat.le_of_ble_eq_true rfl) ⟨Nat.le_of_ble_eq_true rfl, Nat.le_of_ble_eq_true rfl⟩ ⟨Nat.le_of_ble_eq_true rfl, Nat.le_of_ble_eq_true rfl⟩ (c_putWord hB (nb := (nb + 4)) hw1 pwN_1 (by omega)) x_d (k_d0 ?_)
  refine j_aload_n 26 0 dX9_append_25 rfl rfl ?_
  refine j_iload_n 27 3 dX9_append_26 rfl rfl ?_
  refine j_callV 30 (As := [.int (i32 (w2))]) (kc2 := 0) (ks2 := 0) dX9_append_27 rfl mvX9_putWord lk_X9_44 hB.cx rfl ⟨Nat.le_of_ble_eq_true rfl, rfl⟩ rfl rfl (Nat.le_of_ble_eq_true rfl) ⟨Nat.le_of_ble_eq_true rfl, Nat.le_of_ble_eq_true rfl⟩ ⟨Nat.le_of_ble_eq_true rfl, Nat.le_of_ble_eq_true rfl⟩ (c_putWord hB (nb := (nb + 8)) hw2 pwN_1 (by omega)) x_d (k_d0 ?_)
  refine j_aload_n 31 0 dX9_append_30 rfl rfl ?_
  refine j_iload 33 4 dX9_append_31 rfl rfl ?_
  refine j_callV 36 (As := [.int (i32 (w3))]) (kc2 := 0) (ks2 := 0) dX9_append_33 rfl mvX9_putWord lk_X9_44 hB.cx rfl ⟨Nat.le_of_ble_eq_true rfl, rfl⟩ rfl rfl (Nat.le_of_ble_eq_true rfl) ⟨Nat.le_of_ble_eq_true rfl, Nat.le_of_ble_eq_true rfl⟩ ⟨Nat.le_of_ble_eq_true rfl, Nat.le_of_ble_eq_true rfl⟩ (c_putWord hB (nb := (nb + 12)) hw3 pwN_1 (by omega)) x_d (k_d0 ?_)
  refine j_aload_n 37 0 dX9_append_36 rfl rfl ?_
  refine j_iload 39 5 dX9_append_37 rfl rfl ?_
  refine j_callV 42 (As := [.int (i32 (w4))]) (kc2 := 0) (ks2 := 0) dX9_append_39 rfl mvX9_putWord lk_X9_44 hB.cx rfl ⟨Nat.le_of_ble_eq_true rfl, rfl⟩ rfl rfl (Nat.le_of_ble_eq_true rfl) ⟨Nat.le_of_ble_eq_true rfl, Nat.le_of_ble_eq_true rfl⟩ ⟨Nat.le_of_ble_eq_true rfl, Nat.le_of_ble_eq_true rfl⟩ (c_putWord hB (nb := (nb + 16)) hw4 pwN_1 (by omega)) x_d (k_d0 ?_)
  refine j_aload_n 43 0 dX9_append_42 rfl rfl ?_
  refine j_geti 46 dX9_append_43 rfl fl_X9_13 hB.cx rfl rfl (fun r_43 => ?_)
  refine j_top (y := ((nb + 20 : Nat) : Int)) (pwN_1) ?_
  exact j_iret dX9_append_46 rfl (⟨_, rfl, rfl, rfl, pwN_1, ap_row, fun a h2 h3 => by rw [pwN_o h2 h3, pwN_o h2 h3, pwN_o h2 h3, pwN_o h2 h3, pwN_o h2 h3], fun j hj => by rw [pwN_B hj, pwN_B hj, pwN_B hj, pwN_B hj, pwN_B hj]⟩)

set_option maxRecDepth 20000 in
theorem c_append0 {w : Wd} {sh : Shp} {g : Mem} {B : Nat} (hB : CxS sh.1 B) {nb : Nat} {w0 w1 w2 w3 w4 : Int} (hw0 : R32 w0) (hw1 : R32 w1) (hw2 : R32 w2) (hw3 : R32 w3) (hw4 : R32 w4) (h1 : g B 1 = (nb : Int)) (hn0 : nb ≤ 700) (hn : ¬ nb + 20 ≤ 700) : CT w mX9_append [.ref (B), .int (i32 (w0)), .int (i32 (w1)), .int (i32 (w2)), .int (i32 (w3)), .int (i32 (w4))] sh g (dQ (some (.int (i32 (-1)))) sh g) := by
  refine j_entry (by decide) rfl (Nat.le_of_ble_eq_true rfl) (fun h => by cases h) rfl ?_
  show J w mX9_append 0 [(0, .ref (B)), (1, .int (i32 (w0))), (2, .int (i32 (w1))), (3, .int (i32 (w2))), (4, .int (i32 (w3))), (5, .int (i32 (w4)))] [] sh g 0 0 _
  refine j_aload_n 1 0 dX9_append_0 rfl rfl ?_
  refine j_geti 4 dX9_append_1 rfl fl_X9_13 hB.cx rfl rfl (fun r_1 => ?_)
  refine j_top (y := (nb : Int)) (h1) ?_
  refine j_bipush 6 dX9_append_4 rfl (by decide) ?_
  refine j_iadd 7 dX9_append_6 rfl ?_
  refine j_sipush 10 dX9_append_7 rfl (by decide) ?_
  refine j_icmp_le 13 15 dX9_append_10 rfl rfl (r32 (by omega) (by omega)) (r32 (by decide) (by decide)) (fun c_10 => absurd c_10 (by omega)) (fun c_10 => ?_)
  refine j_iconst 14 dX9_append_13 rfl ?_
  exact j_iret dX9_append_14 rfl (q_i rfl)

set_option maxRecDepth 20000 in
theorem c_errorOffset {w : Wd} {sh : Shp} {g : Mem} {B : Nat} (hB : CxS sh.1 B)  : CT w mX9_errorOffset [.ref (B)] sh g (dQ (some (.int (i32 (g B 2)))) sh g) := by
  refine j_entry (by decide) rfl (Nat.le_of_ble_eq_true rfl) (fun h => by cases h) rfl ?_
  show J w mX9_errorOffset 0 [(0, .ref (B))] [] sh g 0 0 _
  refine j_aload_n 1 0 dX9_errorOffset_0 rfl rfl ?_
  refine j_geti 4 dX9_errorOffset_1 rfl fl_X9_17 hB.cx rfl rfl (fun r_1 => ?_)
  exact j_iret dX9_errorOffset_4 rfl (q_i rfl)
