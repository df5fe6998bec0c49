/-! more rules -/
theorem up2_upR_n {g : Mem} {a b i : Nat} {d : Nat → Int} {x : Int} (h : b ≠ a) : up2 (upR g a d) b i x = upR (up2 g b i x) a d := by
  funext c j
  by_cases hc : c = a
  · subst hc; rw [upR_s, up2_a (fun q => h q.symm), upR_s]
  · rw [upR_n hc]
    by_cases hb : c = b
    · subst hb
      by_cases hj : j = i
      · subst hj; rw [up2_s, up2_s]
      · rw [up2_k hj, up2_k hj, upR_n hc]
    · rw [up2_a hb, up2_a hb, upR_n hc]
theorem upR_at {g : Mem} {a b i : Nat} {d : Nat → Int} (h : b ≠ a) : upR g a d b i = g b i := congrFun (upR_n h) i
theorem upR_comm {g : Mem} {a b : Nat} {d e : Nat → Int} (h : b ≠ a) : upR (upR g a d) b e = upR (upR g b e) a d := by
  funext c
  by_cases hc : c = a
  · subst hc; rw [upR_n (fun q => h q.symm), upR_s, upR_s]
  · rw [upR_n hc]
    by_cases hb : c = b
    · subst hb; rw [upR_s, upR_s]
    · rw [upR_n hb, upR_n hb, upR_n hc]
theorem R32_upR {g : Mem} {a b i : Nat} {d : Nat → Int} (h : b ≠ a) (r : R32 (upR g a d b i)) : R32 (g b i) := by rw [upR_at h] at r; exact r
theorem arr_cong {cA : ClassId} {n : Nat} {f h : Nat → Int32} (q : ∀ j, j < n → f j = h j) : vp_cell cA (n, .inl f) = vp_cell cA (n, .inl h) := by
  rw [vp_cell_i, vp_cell_i]
  unfold arrV
  congr 1
  exact congrArg Array.ofFn (funext fun j => (by show Value.int (f j.val) = Value.int (h j.val); rw [q j.val j.isLt]))
theorem Rep.irow {w : Wd} {sh : Shp} {g : Mem} {H : Heap} {a : Nat} {kd : Kd} {row : Nat → Int} (hR : Rep w sh g H) (hs : sh.1 a = some kd) (hc : kd.1 = 10) (hq : ∀ j, j < kd.2.1 → row j = g a j) (hr : ∀ j, R32 (row j)) : Rep w sh (upR g a row) H := by
  obtain ⟨h1, h2, h3, h4⟩ := hR
  refine ⟨fun b kb hb => ?_, h2, h3, h4⟩
  obtain ⟨b1, b2, b3, b4⟩ := h1 b kb hb
  by_cases e : b = a
  · subst e
    have ek : kb = kd := Option.some.inj (hb.symm.trans hs)
    subst ek
    refine ⟨b1, ?_, b3, fun j => ?_⟩
    · rw [upR_s]
      rw [c_E_i hc] at b2 ⊢
      have e2 : vp_cell (w.2.1 10) (kb.2.1, .inl fun j => i32 (row j)) = vp_cell (w.2.1 10) (kb.2.1, .inl fun j => i32 (g b j)) := arr_cong (fun j hj => by rw [hq j hj])
      show H[b]? = some (vp_cell (w.2.1 10) (kb.2.1, .inl fun j => i32 (row j)))
      rw [e2]
      exact b2
    · rw [upR_s]
      unfold k_rng
      rw [if_neg (by omega), if_neg (by omega), if_pos hc]
      exact hr j
  · rw [upR_n e]
    exact ⟨b1, b2, b3, b4⟩
section JR2
variable {w : Wd} {Y : MD} {pc : Nat} {L : List (Nat × Value)} {S : List Value} {sh : Shp} {g : Mem} {kc ks : Nat} {Q : Post}
/-- an array of ints may be told by another row that agrees with it within its length -/
theorem j_row {a : Nat} {kd : Kd} {row : Nat → Int} (hs : sh.1 a = some kd) (hc : kd.1 = 10) (hq : ∀ j, j < kd.2.1 → row j = g a j) (hr : ∀ j, R32 (row j)) (kk : J w Y pc L S sh (upR g a row) kc ks Q) : J w Y pc L S sh g kc ks Q := by
  intro p l e s m args below meth c H locs cells slots Z ls C hZ hR hlo hcl hsl hl
  exact kk p l e s m args below meth c H locs cells slots Z ls C hZ (hR.irow hs hc hq hr) hlo hcl hsl hl
/-- all calls of an Exchange: came is 0 or 1, the rest are ints -/
theorem j_rgc {e : Nat} (hE : ExS sh.1 e) (kk : (∀ c, c < 40 → (g (e + 35 + c) 6 = 0 ∨ g (e + 35 + c) 6 = 1)) → J w Y pc L S sh g kc ks Q) : J w Y pc L S sh g kc ks Q := by
  intro p l e2 s m args below meth c H locs cells slots Z ls C hZ hR hlo hcl hsl hl
  refine kk (fun c hc => ?_) p l e2 s m args below meth _ H locs cells slots Z ls C hZ hR hlo hcl hsl hl
  have h := (hR.1 _ _ (hE.cl c hc)).2.2.2 6
  exact h
theorem j_ldc2 (n : Nat) {idx : Nat} {x : Int} (hd : decode (md_c Y) pc = .ok (.ldc2_w idx, 3)) (hn : pc + 3 = n) (hw : Cond.constantLong (md_o Y) idx (i64 x) ∈ lw_good) (kk : J w Y n L (.long (i64 x) :: S) sh g kc ks Q) : J w Y pc L S sh g kc ks Q := by
  subst hn
  intro p l e s m args below meth c H locs cells slots Z ls C hZ hR hlo hc hs hl
  exact lv_ldc2 C.1 C.2.1 C.2.2.2.1 (C.2.2.2.2.1 _ hw) hd (kk p l e s m args below meth c H locs cells slots Z ls C hZ hR hlo hc hs hl)
theorem j_ldc (n : Nat) {idx : Nat} {x : Int} (hd : decode (md_c Y) pc = .ok (.ldc idx, 2)) (hn : pc + 2 = n) (hw : Cond.constant (md_o Y) idx (i32 x) ∈ lw_good) (kk : J w Y n L (.int (i32 x) :: S) sh g kc ks Q) : J w Y pc L S sh g kc ks Q := by
  subst hn
  intro p l e s m args below meth c H locs cells slots Z ls C hZ hR hlo hc hs hl
  exact lv_ldc C.1 C.2.1 C.2.2.2.1 (C.2.2.2.2.1 _ hw) hd (kk p l e s m args below meth c H locs cells slots Z ls C hZ hR hlo hc hs hl)
theorem j_fconst0 (n : Nat) (hd : decode (md_c Y) pc = .ok (.fconst 0, 1)) (hn : pc + 1 = n) (kk : J w Y n L (.float FP.fconst0 :: S) sh g kc ks Q) : J w Y pc L S sh g kc ks Q := by
  subst hn
  intro p l e s m args below meth c H locs cells slots Z ls C hZ hR hlo hc hs hl
  exact lv_fconst0 C.1 C.2.1 hd (kk p l e s m args below meth c H locs cells slots Z ls C hZ hR hlo hc hs hl)
theorem j_fconst1 (n : Nat) (hd : decode (md_c Y) pc = .ok (.fconst 1, 1)) (hn : pc + 1 = n) (kk : J w Y n L (.float FP.fconst1 :: S) sh g kc ks Q) : J w Y pc L S sh g kc ks Q := by
  subst hn
  intro p l e s m args below meth c H locs cells slots Z ls C hZ hR hlo hc hs hl
  exact lv_fconst1 C.1 C.2.1 hd (kk p l e s m args below meth c H locs cells slots Z ls C hZ hR hlo hc hs hl)
theorem j_i2f (n : Nat) {x : Int32} (hd : decode (md_c Y) pc = .ok (.i2f, 1)) (hn : pc + 1 = n) (kk : J w Y n L (.float (FP.i2f x) :: S) sh g kc ks Q) : J w Y pc L (.int x :: S) sh g kc ks Q := by
  subst hn
  intro p l e s m args below meth c H locs cells slots Z ls C hZ hR hlo hc hs hl
  exact lv_i2f C.1 C.2.1 hd (kk p l e s m args below meth c H locs cells slots Z ls C hZ hR hlo hc hs hl)
theorem j_fdiv (n : Nat) {x y : UInt32} (hd : decode (md_c Y) pc = .ok (.fdiv, 1)) (hn : pc + 1 = n) (hne : vf_n32 (FP.fdiv x y)) (kk : J w Y n L (.float (FP.fdiv x y) :: S) sh g kc ks Q) : J w Y pc L (.float y :: .float x :: S) sh g kc ks Q := by
  subst hn
  intro p l e s m args below meth c H locs cells slots Z ls C hZ hR hlo hc hs hl
  exact lv_fdiv C.1 C.2.1 hd hne (kk p l e s m args below meth c H locs cells slots Z ls C hZ hR hlo hc hs hl)
theorem j_f2d (n : Nat) {x : UInt32} (hd : decode (md_c Y) pc = .ok (.f2d, 1)) (hn : pc + 1 = n) (hne : vf_n64 (FP.f2d x)) (kk : J w Y n L (.double (FP.f2d x) :: S) sh g kc ks Q) : J w Y pc L (.float x :: S) sh g kc ks Q := by
  subst hn
  intro p l e s m args below meth c H locs cells slots Z ls C hZ hR hlo hc hs hl
  exact lv_f2d C.1 C.2.1 hd hne (kk p l e s m args below meth c H locs cells slots Z ls C hZ hR hlo hc hs hl)
theorem j_dcmp (n : Nat) {x y : UInt64} {op : CmpOp} (hd : decode (md_c Y) pc = .ok (.dcmp op, 1)) (hn : pc + 1 = n) (kk : J w Y n L (.int (Op.cmpValue (FP.dcmp x y) op) :: S) sh g kc ks Q) : J w Y pc L (.double y :: .double x :: S) sh g kc ks Q := by
  subst hn
  intro p l e s m args below meth c H locs cells slots Z ls C hZ hR hlo hc hs hl
  exact lv_dcmp C.1 C.2.1 hd (kk p l e s m args below meth c H locs cells slots Z ls C hZ hR hlo hc hs hl)
theorem j_lcmp (n : Nat) {x y : Int64} (hd : decode (md_c Y) pc = .ok (.lcmp, 1)) (hn : pc + 1 = n) (kk : J w Y n L (.int (lg_cmp x y) :: S) sh g kc ks Q) : J w Y pc L (.long y :: .long x :: S) sh g kc ks Q := by
  subst hn
  intro p l e s m args below meth c H locs cells slots Z ls C hZ hR hlo hc hs hl
  exact W.lcmp C.1 C.2.1 hd (kk p l e s m args below meth c H locs cells slots Z ls C hZ hR hlo hc hs hl)
end JR2
theorem k31 : Cond.constantLong RX9 290 (i64 31) ∈ lw_good := by decide +kernel
theorem k1e8 : Cond.constant RX10 89 (i32 100000000) ∈ lw_good := by decide +kernel
/-! a quotient of whole numbers is a number -/
theorem n32_of {r : UInt32} (h : Jvm.FP.Core.val32 r ≠ .nan) : vf_n32 r := by
  have h1 := (Jvm.FP.Core.ne_nan32 r).mp h
  unfold vf_n32
  rw [UInt32.le_iff_toNat_le, UInt32.toNat_and]
  show r.toNat &&& 2147483647 ≤ 2139095040
  rw [show (2147483647 : Nat) = 2 ^ 31 - 1 from rfl, Nat.and_two_pow_sub_one_eq_mod]
  exact h1
theorem fd_nan {a : Int32} {b : Int} (hb : 1 ≤ b ∧ b ≤ 16777216) : Jvm.FP.Core.val32 (FP.fdiv (FP.i2f a) (FP.i2f (i32 b))) ≠ .nan := by
  have eb : (i32 b).toInt = b := i32_toInt ⟨by omega, by omega⟩
  have hw : Jvm.FP.Core.Whole (i32 b).toInt (Jvm.FP.Core.val32 (Jvm.FP.Core.i2f (i32 b))) := Jvm.FP.Core.i2f_int (a := i32 b) (by rw [eb]; omega)
  rw [eb] at hw
  show Jvm.FP.Core.val32 (Jvm.FP.Core.fdiv (Jvm.FP.Core.i2f a) (Jvm.FP.Core.i2f (i32 b))) ≠ .nan
  rw [Jvm.FP.Core.val32_fdiv, Jvm.FP.Core.val32_i2f a]
  cases hv : Jvm.FP.Core.val32 (Jvm.FP.Core.i2f (i32 b)) with
  | nan => rw [hv] at hw; exact hw.elim
  | inf s => rw [hv] at hw; exact hw.elim
  | fin s c q =>
    rw [hv] at hw
    have hc : c ≠ 0 := by
      intro h0
      subst h0
      have hw2 : Jvm.FP.Core.signed s (0 * 2 ^ q.toNat) = b * ((2 ^ (-q).toNat : Nat) : Int) := hw
      rw [Nat.zero_mul] at hw2
      have hp : 0 < (2 ^ (-q).toNat : Nat) := Nat.pos_of_ne_zero (by simp)
      have hp2 : 0 < b * ((2 ^ (-q).toNat : Nat) : Int) := Int.mul_pos (by omega) (by omega)
      have hz : Jvm.FP.Core.signed s 0 = 0 := by cases s <;> rfl
      omega
    show Jvm.FP.Core.quotient Jvm.FP.Core.b32 (Jvm.FP.Core.roundRatio Jvm.FP.Core.b32 (decide (a.toInt < 0)) a.toInt.natAbs 1 0) (.fin s c q) ≠ .nan
    rcases Jvm.FP.Core.roundRatio_cases Jvm.FP.Core.b32 (decide (a.toInt < 0)) a.toInt.natAbs 1 0 with ⟨c1, q1, h⟩ | h
    · rw [h]
      show (if c = 0 then _ else _) ≠ _
      rw [if_neg hc]
      exact Jvm.FP.Core.roundRatio_ne_nan _ _ _ _ _
    · rw [h]
      exact Jvm.FP.Core.Datum.noConfusion
theorem fd_num {a : Int32} {b : Int} (hb : 1 ≤ b ∧ b ≤ 16777216) : vf_n32 (FP.fdiv (FP.i2f a) (FP.i2f (i32 b))) := n32_of (fd_nan hb)
