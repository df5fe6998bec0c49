theorem r01 {z : Int} (h : z = 0 ∨ z = 1) : R32 z := by rcases h with rfl | rfl <;> exact ⟨by decide, by decide⟩
theorem r8 {z : Int} (h : -128 ≤ z ∧ z ≤ 127) : R32 z := ⟨by omega, by omega⟩
section JA
variable {w : Wd} {Y : MD} {pc : Nat} {L : List (Nat × Value)} {S : List Value} {sh : Shp} {g : Mem} {kc ks : Nat} {Q : Post}
theorem j_iconst (n : Nat) {x : Int} (hd : decode (md_c Y) pc = .ok (.iconst x, 1)) (hn : pc + 1 = n)  (kk : J w Y n L (.int (i32 x) :: S) sh g kc ks Q) : J w Y pc L (S) sh g kc ks Q := by
  subst hn
  intro p l e s m args below meth c H locs cells slots Z ls C hZ hR hlo hc hs hl
  exact lv_iconst C.1 C.2.1 hd rfl (kk p l e s m args below meth c H locs cells slots Z ls C hZ hR hlo hc hs hl)

theorem j_bipush (n : Nat) {x : Int} (hd : decode (md_c Y) pc = .ok (.bipush x, 2)) (hn : pc + 2 = n) (hv : (Int8.ofInt x).toInt32 = i32 x) (kk : J w Y n L (.int (i32 x) :: S) sh g kc ks Q) : J w Y pc L (S) sh g kc ks Q := by
  subst hn
  intro p l e s m args below meth c H locs cells slots Z ls C hZ hR hlo hc hs hl
  exact lv_bipush C.1 C.2.1 hd hv (kk p l e s m args below meth c H locs cells slots Z ls C hZ hR hlo hc hs hl)

theorem j_sipush (n : Nat) {x : Int} (hd : decode (md_c Y) pc = .ok (.sipush x, 3)) (hn : pc + 3 = n) (hv : (Int16.ofInt x).toInt32 = i32 x) (kk : J w Y n L (.int (i32 x) :: S) sh g kc ks Q) : J w Y pc L (S) sh g kc ks Q := by
  subst hn
  intro p l e s m args below meth c H locs cells slots Z ls C hZ hR hlo hc hs hl
  exact lv_sipush C.1 C.2.1 hd hv (kk p l e s m args below meth c H locs cells slots Z ls C hZ hR hlo hc hs hl)

theorem j_lconst (n : Nat) {q : Fin 2} {x : Int} (hd : decode (md_c Y) pc = .ok (.lconst q, 1)) (hn : pc + 1 = n) (hv : Int64.ofNat (q : Nat) = i64 x) (kk : J w Y n L (.long (i64 x) :: S) sh g kc ks Q) : J w Y pc L (S) sh g kc ks Q := by
  subst hn
  intro p l e s m args below meth c H locs cells slots Z ls C hZ hR hlo hc hs hl
  exact lv_lconst C.1 C.2.1 hd hv (kk p l e s m args below meth c H locs cells slots Z ls C hZ hR hlo hc hs hl)

theorem j_null (n : Nat)  (hd : decode (md_c Y) pc = .ok (.aconst_null, 1)) (hn : pc + 1 = n)  (kk : J w Y n L (.null :: S) sh g kc ks Q) : J w Y pc L (S) sh g kc ks Q := by
  subst hn
  intro p l e s m args below meth c H locs cells slots Z ls C hZ hR hlo hc hs hl
  exact lv_null C.1 C.2.1 hd  (kk p l e s m args below meth c H locs cells slots Z ls C hZ hR hlo hc hs hl)

theorem j_iload_n (n : Nat) (k : Nat) {q : Fin 4} {x : Int32} (hd : decode (md_c Y) pc = .ok (.iload_n q, 1)) (hn : pc + 1 = n) (hk : L[k]? = some ((q : Nat), Value.int x)) (kk : J w Y n L (.int x :: S) sh g kc ks Q) : J w Y pc L (S) sh g kc ks Q := by
  subst hn
  intro p l e s m args below meth c H locs cells slots Z ls C hZ hR hlo hc hs hl
  exact lv_iload_n C.1 C.2.1 hd rfl (lv_at hl k hk) (kk p l e s m args below meth c H locs cells slots Z ls C hZ hR hlo hc hs hl)

theorem j_iload (n : Nat) (k : Nat) {i : Nat} {x : Int32} (hd : decode (md_c Y) pc = .ok (.iload i, 2)) (hn : pc + 2 = n) (hk : L[k]? = some (i, Value.int x)) (kk : J w Y n L (.int x :: S) sh g kc ks Q) : J w Y pc L (S) sh g kc ks Q := by
  subst hn
  intro p l e s m args below meth c H locs cells slots Z ls C hZ hR hlo hc hs hl
  exact lv_iload C.1 C.2.1 hd (lv_at hl k hk) (kk p l e s m args below meth c H locs cells slots Z ls C hZ hR hlo hc hs hl)

theorem j_lload_n (n : Nat) (k : Nat) {q : Fin 4} {x : Int64} (hd : decode (md_c Y) pc = .ok (.lload_n q, 1)) (hn : pc + 1 = n) (hk : L[k]? = some ((q : Nat), Value.long x)) (kk : J w Y n L (.long x :: S) sh g kc ks Q) : J w Y pc L (S) sh g kc ks Q := by
  subst hn
  intro p l e s m args below meth c H locs cells slots Z ls C hZ hR hlo hc hs hl
  exact lv_lload_n C.1 C.2.1 hd rfl (lv_at hl k hk) (kk p l e s m args below meth c H locs cells slots Z ls C hZ hR hlo hc hs hl)

theorem j_lload (n : Nat) (k : Nat) {i : Nat} {x : Int64} (hd : decode (md_c Y) pc = .ok (.lload i, 2)) (hn : pc + 2 = n) (hk : L[k]? = some (i, Value.long x)) (kk : J w Y n L (.long x :: S) sh g kc ks Q) : J w Y pc L (S) sh g kc ks Q := by
  subst hn
  intro p l e s m args below meth c H locs cells slots Z ls C hZ hR hlo hc hs hl
  exact lv_lload C.1 C.2.1 hd (lv_at hl k hk) (kk p l e s m args below meth c H locs cells slots Z ls C hZ hR hlo hc hs hl)

theorem j_fload_n (n : Nat) (k : Nat) {q : Fin 4} {x : UInt32} (hd : decode (md_c Y) pc = .ok (.fload_n q, 1)) (hn : pc + 1 = n) (hk : L[k]? = some ((q : Nat), Value.float x)) (kk : J w Y n L (.float x :: S) sh g kc ks Q) : J w Y pc L (S) sh g kc ks Q := by
  subst hn
  intro p l e s m args below meth c H locs cells slots Z ls C hZ hR hlo hc hs hl
  exact lv_fload_n C.1 C.2.1 hd rfl (lv_at hl k hk) (kk p l e s m args below meth c H locs cells slots Z ls C hZ hR hlo hc hs hl)

theorem j_fload (n : Nat) (k : Nat) {i : Nat} {x : UInt32} (hd : decode (md_c Y) pc = .ok (.fload i, 2)) (hn : pc + 2 = n) (hk : L[k]? = some (i, Value.float x)) (kk : J w Y n L (.float x :: S) sh g kc ks Q) : J w Y pc L (S) sh g kc ks Q := by
  subst hn
  intro p l e s m args below meth c H locs cells slots Z ls C hZ hR hlo hc hs hl
  exact lv_fload C.1 C.2.1 hd (lv_at hl k hk) (kk p l e s m args below meth c H locs cells slots Z ls C hZ hR hlo hc hs hl)

theorem j_dload_n (n : Nat) (k : Nat) {q : Fin 4} {x : UInt64} (hd : decode (md_c Y) pc = .ok (.dload_n q, 1)) (hn : pc + 1 = n) (hk : L[k]? = some ((q : Nat), Value.double x)) (kk : J w Y n L (.double x :: S) sh g kc ks Q) : J w Y pc L (S) sh g kc ks Q := by
  subst hn
  intro p l e s m args below meth c H locs cells slots Z ls C hZ hR hlo hc hs hl
  exact lv_dload_n C.1 C.2.1 hd rfl (lv_at hl k hk) (kk p l e s m args below meth c H locs cells slots Z ls C hZ hR hlo hc hs hl)

theorem j_dload (n : Nat) (k : Nat) {i : Nat} {x : UInt64} (hd : decode (md_c Y) pc = .ok (.dload i, 2)) (hn : pc + 2 = n) (hk : L[k]? = some (i, Value.double x)) (kk : J w Y n L (.double x :: S) sh g kc ks Q) : J w Y pc L (S) sh g kc ks Q := by
  subst hn
  intro p l e s m args below meth c H locs cells slots Z ls C hZ hR hlo hc hs hl
  exact lv_dload C.1 C.2.1 hd (lv_at hl k hk) (kk p l e s m args below meth c H locs cells slots Z ls C hZ hR hlo hc hs hl)

theorem j_aload_n (n : Nat) (k : Nat) {q : Fin 4} {x : Nat} (hd : decode (md_c Y) pc = .ok (.aload_n q, 1)) (hn : pc + 1 = n) (hk : L[k]? = some ((q : Nat), Value.ref x)) (kk : J w Y n L (.ref x :: S) sh g kc ks Q) : J w Y pc L (S) sh g kc ks Q := by
  subst hn
  intro p l e s m args below meth c H locs cells slots Z ls C hZ hR hlo hc hs hl
  exact lv_aload_n C.1 C.2.1 hd rfl (lv_at hl k hk) (kk p l e s m args below meth c H locs cells slots Z ls C hZ hR hlo hc hs hl)

theorem j_aload (n : Nat) (k : Nat) {i : Nat} {x : Nat} (hd : decode (md_c Y) pc = .ok (.aload i, 2)) (hn : pc + 2 = n) (hk : L[k]? = some (i, Value.ref x)) (kk : J w Y n L (.ref x :: S) sh g kc ks Q) : J w Y pc L (S) sh g kc ks Q := by
  subst hn
  intro p l e s m args below meth c H locs cells slots Z ls C hZ hR hlo hc hs hl
  exact lv_aload C.1 C.2.1 hd (lv_at hl k hk) (kk p l e s m args below meth c H locs cells slots Z ls C hZ hR hlo hc hs hl)

theorem j_aload_nN (n : Nat) (k : Nat) {q : Fin 4} (hd : decode (md_c Y) pc = .ok (.aload_n q, 1)) (hn : pc + 1 = n) (hk : L[k]? = some ((q : Nat), Value.null)) (kk : J w Y n L (.null :: S) sh g kc ks Q) : J w Y pc L (S) sh g kc ks Q := by
  subst hn
  intro p l e s m args below meth c H locs cells slots Z ls C hZ hR hlo hc hs hl
  exact lv_aload_nN C.1 C.2.1 hd rfl (lv_at hl k hk) (kk p l e s m args below meth c H locs cells slots Z ls C hZ hR hlo hc hs hl)

theorem j_aloadN (n : Nat) (k : Nat) {i : Nat} (hd : decode (md_c Y) pc = .ok (.aload i, 2)) (hn : pc + 2 = n) (hk : L[k]? = some (i, Value.null)) (kk : J w Y n L (.null :: S) sh g kc ks Q) : J w Y pc L (S) sh g kc ks Q := by
  subst hn
  intro p l e s m args below meth c H locs cells slots Z ls C hZ hR hlo hc hs hl
  exact lv_aloadN C.1 C.2.1 hd (lv_at hl k hk) (kk p l e s m args below meth c H locs cells slots Z ls C hZ hR hlo hc hs hl)

theorem j_istore_n (n : Nat) {q : Fin 4} {x : Int32} {i : Nat} {L2 : List (Nat × Value)} (hd : decode (md_c Y) pc = .ok (.istore_n q, 1)) (hn : pc + 1 = n) (hi : (q : Nat) = i) (hb : i < md_n Y) (hL : (i, Value.int x) :: L.filter (fun q => !(q.1 == i) && !(q.1 + 1 == i && q.2.category == 2)) = L2) (kk : J w Y n L2 S sh g kc ks Q) : J w Y pc L (Value.int x :: S) sh g kc ks Q := by
  subst hn
  intro p l e s m args below meth c H locs cells slots Z ls C hZ hR hlo hc hs hl
  exact lv_istore_n C.1 C.2.1 hd hi hl hb hL (fun ls2 hl2 => kk p l e s m args below meth c H locs cells slots Z ls2 C hZ hR hlo hc hs hl2)

theorem j_istore (n : Nat) {x : Int32} {i : Nat} {L2 : List (Nat × Value)} (hd : decode (md_c Y) pc = .ok (.istore i, 2)) (hn : pc + 2 = n) (hb : i < md_n Y) (hL : (i, Value.int x) :: L.filter (fun q => !(q.1 == i) && !(q.1 + 1 == i && q.2.category == 2)) = L2) (kk : J w Y n L2 S sh g kc ks Q) : J w Y pc L (Value.int x :: S) sh g kc ks Q := by
  subst hn
  intro p l e s m args below meth c H locs cells slots Z ls C hZ hR hlo hc hs hl
  exact lv_istore C.1 C.2.1 hd hl hb hL (fun ls2 hl2 => kk p l e s m args below meth c H locs cells slots Z ls2 C hZ hR hlo hc hs hl2)

theorem j_astore_n (n : Nat) {q : Fin 4} {x : Nat} {i : Nat} {L2 : List (Nat × Value)} (hd : decode (md_c Y) pc = .ok (.astore_n q, 1)) (hn : pc + 1 = n) (hi : (q : Nat) = i) (hb : i < md_n Y) (hL : (i, Value.ref x) :: L.filter (fun q => !(q.1 == i) && !(q.1 + 1 == i && q.2.category == 2)) = L2) (kk : J w Y n L2 S sh g kc ks Q) : J w Y pc L (Value.ref x :: S) sh g kc ks Q := by
  subst hn
  intro p l e s m args below meth c H locs cells slots Z ls C hZ hR hlo hc hs hl
  exact lv_astore_n C.1 C.2.1 hd hi hl hb hL (fun ls2 hl2 => kk p l e s m args below meth c H locs cells slots Z ls2 C hZ hR hlo hc hs hl2)

theorem j_astore (n : Nat) {x : Nat} {i : Nat} {L2 : List (Nat × Value)} (hd : decode (md_c Y) pc = .ok (.astore i, 2)) (hn : pc + 2 = n) (hb : i < md_n Y) (hL : (i, Value.ref x) :: L.filter (fun q => !(q.1 == i) && !(q.1 + 1 == i && q.2.category == 2)) = L2) (kk : J w Y n L2 S sh g kc ks Q) : J w Y pc L (Value.ref x :: S) sh g kc ks Q := by
  subst hn
  intro p l e s m args below meth c H locs cells slots Z ls C hZ hR hlo hc hs hl
  exact lv_astore C.1 C.2.1 hd hl hb hL (fun ls2 hl2 => kk p l e s m args below meth c H locs cells slots Z ls2 C hZ hR hlo hc hs hl2)

theorem j_astore_nN (n : Nat) {q : Fin 4} {i : Nat} {L2 : List (Nat × Value)} (hd : decode (md_c Y) pc = .ok (.astore_n q, 1)) (hn : pc + 1 = n) (hi : (q : Nat) = i) (hb : i < md_n Y) (hL : (i, Value.null) :: L.filter (fun q => !(q.1 == i) && !(q.1 + 1 == i && q.2.category == 2)) = L2) (kk : J w Y n L2 S sh g kc ks Q) : J w Y pc L (Value.null :: S) sh g kc ks Q := by
  subst hn
  intro p l e s m args below meth c H locs cells slots Z ls C hZ hR hlo hc hs hl
  exact lv_astore_nN C.1 C.2.1 hd hi hl hb hL (fun ls2 hl2 => kk p l e s m args below meth c H locs cells slots Z ls2 C hZ hR hlo hc hs hl2)

theorem j_astoreN (n : Nat)  {i : Nat} {L2 : List (Nat × Value)} (hd : decode (md_c Y) pc = .ok (.astore i, 2)) (hn : pc + 2 = n) (hb : i < md_n Y) (hL : (i, Value.null) :: L.filter (fun q => !(q.1 == i) && !(q.1 + 1 == i && q.2.category == 2)) = L2) (kk : J w Y n L2 S sh g kc ks Q) : J w Y pc L (Value.null :: S) sh g kc ks Q := by
  subst hn
  intro p l e s m args below meth c H locs cells slots Z ls C hZ hR hlo hc hs hl
  exact lv_astoreN C.1 C.2.1 hd hl hb hL (fun ls2 hl2 => kk p l e s m args below meth c H locs cells slots Z ls2 C hZ hR hlo hc hs hl2)

theorem j_lstore_n (n : Nat) {q : Fin 4} {x : Int64} {i : Nat} {L2 : List (Nat × Value)} (hd : decode (md_c Y) pc = .ok (.lstore_n q, 1)) (hn : pc + 1 = n) (hi : (q : Nat) = i) (hb : i + 1 < md_n Y) (hL : (i, Value.long x) :: L.filter (fun q => !(q.1 == i) && (!(q.1 == i + 1) && !(q.1 + 1 == i && q.2.category == 2))) = L2) (kk : J w Y n L2 S sh g kc ks Q) : J w Y pc L (Value.long x :: S) sh g kc ks Q := by
  subst hn
  intro p l e s m args below meth c H locs cells slots Z ls C hZ hR hlo hc hs hl
  exact lv_lstore_n C.1 C.2.1 hd hi hl hb hL (fun ls2 hl2 => kk p l e s m args below meth c H locs cells slots Z ls2 C hZ hR hlo hc hs hl2)

theorem j_lstore (n : Nat) {x : Int64} {i : Nat} {L2 : List (Nat × Value)} (hd : decode (md_c Y) pc = .ok (.lstore i, 2)) (hn : pc + 2 = n) (hb : i + 1 < md_n Y) (hL : (i, Value.long x) :: L.filter (fun q => !(q.1 == i) && (!(q.1 == i + 1) && !(q.1 + 1 == i && q.2.category == 2))) = L2) (kk : J w Y n L2 S sh g kc ks Q) : J w Y pc L (Value.long x :: S) sh g kc ks Q := by
  subst hn
  intro p l e s m args below meth c H locs cells slots Z ls C hZ hR hlo hc hs hl
  exact lv_lstore C.1 C.2.1 hd hl hb hL (fun ls2 hl2 => kk p l e s m args below meth c H locs cells slots Z ls2 C hZ hR hlo hc hs hl2)

theorem j_fstore (n : Nat) {x : UInt32} {i : Nat} {L2 : List (Nat × Value)} (hd : decode (md_c Y) pc = .ok (.fstore i, 2)) (hn : pc + 2 = n) (hb : i < md_n Y) (hL : (i, Value.float x) :: L.filter (fun q => !(q.1 == i) && !(q.1 + 1 == i && q.2.category == 2)) = L2) (kk : J w Y n L2 S sh g kc ks Q) : J w Y pc L (Value.float x :: S) sh g kc ks Q := by
  subst hn
  intro p l e s m args below meth c H locs cells slots Z ls C hZ hR hlo hc hs hl
  exact lv_fstore C.1 C.2.1 hd hl hb hL (fun ls2 hl2 => kk p l e s m args below meth c H locs cells slots Z ls2 C hZ hR hlo hc hs hl2)

theorem j_dstore (n : Nat) {x : UInt64} {i : Nat} {L2 : List (Nat × Value)} (hd : decode (md_c Y) pc = .ok (.dstore i, 2)) (hn : pc + 2 = n) (hb : i + 1 < md_n Y) (hL : (i, Value.double x) :: L.filter (fun q => !(q.1 == i) && (!(q.1 == i + 1) && !(q.1 + 1 == i && q.2.category == 2))) = L2) (kk : J w Y n L2 S sh g kc ks Q) : J w Y pc L (Value.double x :: S) sh g kc ks Q := by
  subst hn
  intro p l e s m args below meth c H locs cells slots Z ls C hZ hR hlo hc hs hl
  exact lv_dstore C.1 C.2.1 hd hl hb hL (fun ls2 hl2 => kk p l e s m args below meth c H locs cells slots Z ls2 C hZ hR hlo hc hs hl2)

theorem j_iinc (n : Nat) (k : Nat) {i : Nat} {d x y : Int} {L2 : List (Nat × Value)} (hd : decode (md_c Y) pc = .ok (.iinc i d, 3)) (hn : pc + 3 = n) (hk : L[k]? = some (i, Value.int (i32 x))) (hv : x + d = y) (hb : i < md_n Y) (hL : (i, Value.int (i32 y)) :: L.filter (fun q => !(q.1 == i) && !(q.1 + 1 == i && q.2.category == 2)) = L2) (kk : J w Y n L2 S sh g kc ks Q) : J w Y pc L S sh g kc ks Q := by
  subst hn
  subst hv
  intro p l e s m args below meth c H locs cells slots Z ls C hZ hR hlo hc hs hl
  exact lv_iinc C.1 C.2.1 hd hl hk (i32_add x d) hb hL (fun ls2 hl2 => kk p l e s m args below meth c H locs cells slots Z ls2 C hZ hR hlo hc hs hl2)

theorem j_iadd (n : Nat) {x y : Int} (hd : decode (md_c Y) pc = .ok (.iadd, 1)) (hn : pc + 1 = n)  (kk : J w Y n L (.int (i32 (x + y)) :: S) sh g kc ks Q) : J w Y pc L (.int (i32 y) :: .int (i32 x) :: S) sh g kc ks Q := by
  subst hn
  intro p l e s m args below meth c H locs cells slots Z ls C hZ hR hlo hc hs hl
  refine lv_iadd C.1 C.2.1 hd ?_
  rw [i32_add x y]
  exact kk p l e s m args below meth c H locs cells slots Z ls C hZ hR hlo hc hs hl

theorem j_isub (n : Nat) {x y : Int} (hd : decode (md_c Y) pc = .ok (.isub, 1)) (hn : pc + 1 = n)  (kk : J w Y n L (.int (i32 (x - y)) :: S) sh g kc ks Q) : J w Y pc L (.int (i32 y) :: .int (i32 x) :: S) sh g kc ks Q := by
  subst hn
  intro p l e s m args below meth c H locs cells slots Z ls C hZ hR hlo hc hs hl
  refine lv_isub C.1 C.2.1 hd ?_
  rw [i32_sub x y]
  exact kk p l e s m args below meth c H locs cells slots Z ls C hZ hR hlo hc hs hl

theorem j_imul (n : Nat) {x y : Int} (hd : decode (md_c Y) pc = .ok (.imul, 1)) (hn : pc + 1 = n)  (kk : J w Y n L (.int (i32 (x * y)) :: S) sh g kc ks Q) : J w Y pc L (.int (i32 y) :: .int (i32 x) :: S) sh g kc ks Q := by
  subst hn
  intro p l e s m args below meth c H locs cells slots Z ls C hZ hR hlo hc hs hl
  refine lv_imul C.1 C.2.1 hd ?_
  rw [i32_mul x y]
  exact kk p l e s m args below meth c H locs cells slots Z ls C hZ hR hlo hc hs hl

theorem j_ladd (n : Nat) {x y : Int} (hd : decode (md_c Y) pc = .ok (.ladd, 1)) (hn : pc + 1 = n)  (kk : J w Y n L (.long (i64 (x + y)) :: S) sh g kc ks Q) : J w Y pc L (.long (i64 y) :: .long (i64 x) :: S) sh g kc ks Q := by
  subst hn
  intro p l e s m args below meth c H locs cells slots Z ls C hZ hR hlo hc hs hl
  refine lv_ladd C.1 C.2.1 hd ?_
  rw [i64_add x y]
  exact kk p l e s m args below meth c H locs cells slots Z ls C hZ hR hlo hc hs hl

theorem j_lmul (n : Nat) {x y : Int} (hd : decode (md_c Y) pc = .ok (.lmul, 1)) (hn : pc + 1 = n)  (kk : J w Y n L (.long (i64 (x * y)) :: S) sh g kc ks Q) : J w Y pc L (.long (i64 y) :: .long (i64 x) :: S) sh g kc ks Q := by
  subst hn
  intro p l e s m args below meth c H locs cells slots Z ls C hZ hR hlo hc hs hl
  refine lv_lmul C.1 C.2.1 hd ?_
  rw [i64_mul x y]
  exact kk p l e s m args below meth c H locs cells slots Z ls C hZ hR hlo hc hs hl

theorem j_i2l (n : Nat) {x : Int} (hd : decode (md_c Y) pc = .ok (.i2l, 1)) (hn : pc + 1 = n) (hx : R32 x) (kk : J w Y n L (.long (i64 x) :: S) sh g kc ks Q) : J w Y pc L (.int (i32 x) :: S) sh g kc ks Q := by
  subst hn
  intro p l e s m args below meth c H locs cells slots Z ls C hZ hR hlo hc hs hl
  exact lv_i2l C.1 C.2.1 hd (i32_i64 hx) (kk p l e s m args below meth c H locs cells slots Z ls C hZ hR hlo hc hs hl)

theorem j_iand (n : Nat) {x y : Int32} (hd : decode (md_c Y) pc = .ok (.iand, 1)) (hn : pc + 1 = n)  (kk : J w Y n L (.int (x &&& y) :: S) sh g kc ks Q) : J w Y pc L (.int y :: .int x :: S) sh g kc ks Q := by
  subst hn
  intro p l e s m args below meth c H locs cells slots Z ls C hZ hR hlo hc hs hl
  exact lv_iand C.1 C.2.1 hd  (kk p l e s m args below meth c H locs cells slots Z ls C hZ hR hlo hc hs hl)

theorem j_ior (n : Nat) {x y : Int32} (hd : decode (md_c Y) pc = .ok (.ior, 1)) (hn : pc + 1 = n)  (kk : J w Y n L (.int (x ||| y) :: S) sh g kc ks Q) : J w Y pc L (.int y :: .int x :: S) sh g kc ks Q := by
  subst hn
  intro p l e s m args below meth c H locs cells slots Z ls C hZ hR hlo hc hs hl
  exact lv_ior C.1 C.2.1 hd  (kk p l e s m args below meth c H locs cells slots Z ls C hZ hR hlo hc hs hl)

theorem j_ishl (n : Nat) {x y : Int32} (hd : decode (md_c Y) pc = .ok (.ishl, 1)) (hn : pc + 1 = n)  (kk : J w Y n L (.int (x <<< (y &&& 31)) :: S) sh g kc ks Q) : J w Y pc L (.int y :: .int x :: S) sh g kc ks Q := by
  subst hn
  intro p l e s m args below meth c H locs cells slots Z ls C hZ hR hlo hc hs hl
  exact lv_ishl C.1 C.2.1 hd  (kk p l e s m args below meth c H locs cells slots Z ls C hZ hR hlo hc hs hl)

theorem j_ishr (n : Nat) {x y : Int32} (hd : decode (md_c Y) pc = .ok (.ishr, 1)) (hn : pc + 1 = n)  (kk : J w Y n L (.int (x >>> (y &&& 31)) :: S) sh g kc ks Q) : J w Y pc L (.int y :: .int x :: S) sh g kc ks Q := by
  subst hn
  intro p l e s m args below meth c H locs cells slots Z ls C hZ hR hlo hc hs hl
  exact lv_ishr C.1 C.2.1 hd  (kk p l e s m args below meth c H locs cells slots Z ls C hZ hR hlo hc hs hl)

theorem j_iushr (n : Nat) {x y v : Int32} (hd : decode (md_c Y) pc = .ok (.iushr, 1)) (hn : pc + 1 = n) (hv : (x.toUInt32 >>> (y.toUInt32 &&& Int32.toUInt32 31)).toInt32 = v) (kk : J w Y n L (.int v :: S) sh g kc ks Q) : J w Y pc L (.int y :: .int x :: S) sh g kc ks Q := by
  subst hn
  intro p l e s m args below meth c H locs cells slots Z ls C hZ hR hlo hc hs hl
  exact lv_iushr C.1 C.2.1 hd hv (kk p l e s m args below meth c H locs cells slots Z ls C hZ hR hlo hc hs hl)

theorem j_i2b (n : Nat) {x v : Int32} (hd : decode (md_c Y) pc = .ok (.i2b, 1)) (hn : pc + 1 = n) (hv : x.toInt8.toInt32 = v) (kk : J w Y n L (.int v :: S) sh g kc ks Q) : J w Y pc L (.int x :: S) sh g kc ks Q := by
  subst hn
  intro p l e s m args below meth c H locs cells slots Z ls C hZ hR hlo hc hs hl
  exact lv_i2b C.1 C.2.1 hd hv (kk p l e s m args below meth c H locs cells slots Z ls C hZ hR hlo hc hs hl)

theorem i32_pdiv {x y : Int} (hx : 0 ≤ x) (hx2 : x ≤ 2147483647) (hy : 0 < y) (hy2 : y ≤ 2147483647) : i32 x / i32 y = i32 (x / y) := by
  obtain ⟨a, rfl⟩ := Int.eq_ofNat_of_zero_le hx
  obtain ⟨b, rfl⟩ := Int.eq_ofNat_of_zero_le (Int.le_of_lt hy)
  have h := pk_div (a := a) (d := b) (by omega) (by omega) (by omega)
  rw [i32_nat, i32_nat, h]
  rfl
theorem i32_prem {x y : Int} (hx : 0 ≤ x) (hx2 : x ≤ 2147483647) (hy : 0 < y) (hy2 : y ≤ 2147483647) : i32 x - i32 x / i32 y * i32 y = i32 (x % y) := by
  obtain ⟨a, rfl⟩ := Int.eq_ofNat_of_zero_le hx
  obtain ⟨b, rfl⟩ := Int.eq_ofNat_of_zero_le (Int.le_of_lt hy)
  have h := pk_rem (a := a) (d := b) (by omega) (by omega) (by omega)
  rw [i32_nat, i32_nat, h]
  rfl
theorem j_dup (n : Nat) {v : Value} (hd : decode (md_c Y) pc = .ok (.dup, 1)) (hn : pc + 1 = n) (hv : v.category = 1) (kk : J w Y n L (v :: v :: S) sh g kc ks Q) : J w Y pc L (v :: S) sh g kc ks Q := by
  subst hn
  intro p l e s m args below meth c H locs cells slots Z ls C hZ hR hlo hc hs hl
  exact lv_dup C.1 C.2.1 hd hv (kk p l e s m args below meth c H locs cells slots Z ls C hZ hR hlo hc hs hl)

theorem j_pop (n : Nat) {v : Value} (hd : decode (md_c Y) pc = .ok (.pop, 1)) (hn : pc + 1 = n) (hv : v.category = 1) (kk : J w Y n L (S) sh g kc ks Q) : J w Y pc L (v :: S) sh g kc ks Q := by
  subst hn
  intro p l e s m args below meth c H locs cells slots Z ls C hZ hR hlo hc hs hl
  exact lv_pop C.1 C.2.1 hd hv (kk p l e s m args below meth c H locs cells slots Z ls C hZ hR hlo hc hs hl)

theorem j_dup2 (n : Nat) {v u : Value} (hd : decode (md_c Y) pc = .ok (.dup2, 1)) (hn : pc + 1 = n) (hv : v.category = 1) (hu : u.category = 1) (kk : J w Y n L (v :: u :: v :: u :: S) sh g kc ks Q) : J w Y pc L (v :: u :: S) sh g kc ks Q := by
  subst hn
  intro p l e s m args below meth c H locs cells slots Z ls C hZ hR hlo hc hs hl
  exact lv_dup2_11 C.1 C.2.1 hd hv hu (kk p l e s m args below meth c H locs cells slots Z ls C hZ hR hlo hc hs hl)

theorem i32_ge {x y : Int} (hx : R32 x) (hy : R32 y) : i32 y ≤ i32 x ↔ y ≤ x := i32_le hy hx
theorem i32_gt {x y : Int} (hx : R32 x) (hy : R32 y) : i32 y < i32 x ↔ y < x := i32_lt hy hx
theorem i32_0 : (0 : Int32) = i32 0 := rfl
theorem R32_0 : R32 0 := ⟨by decide, by decide⟩
theorem z_eq {x : Int} (hx : R32 x) : i32 x = 0 ↔ x = 0 := i32_inj hx R32_0
theorem z_lt {x : Int} (hx : R32 x) : i32 x < 0 ↔ x < 0 := i32_lt hx R32_0
theorem z_le {x : Int} (hx : R32 x) : i32 x ≤ 0 ↔ x ≤ 0 := i32_le hx R32_0
theorem z_gt {x : Int} (hx : R32 x) : 0 < i32 x ↔ 0 < x := i32_lt R32_0 hx
theorem z_ge {x : Int} (hx : R32 x) : 0 ≤ i32 x ↔ 0 ≤ x := i32_le R32_0 hx
theorem j_icmp_eq (n t : Nat) {x y off : Int} (hd : decode (md_c Y) pc = .ok (.if_icmp .eq off, 3)) (hn : pc + 3 = n) (ht : (pc : Int) + off = (t : Int)) (hx : R32 x) (hy : R32 y) (kt : x = y → J w Y t L S sh g kc ks Q) (kf : ¬ x = y → J w Y n L S sh g kc ks Q) : J w Y pc L (.int (i32 y) :: .int (i32 x) :: S) sh g kc ks Q := by
  subst hn
  intro p l e s m args below meth c H locs cells slots Z ls C hZ hR hlo hc hs hl
  exact lv_icmp_eq C.1 C.2.1 hd ht (fun q => kt ((i32_inj hx hy).mp q) p l e s m args below meth c H locs cells slots Z ls C hZ hR hlo hc hs hl) (fun q => kf (fun z => q ((i32_inj hx hy).mpr z)) p l e s m args below meth c H locs cells slots Z ls C hZ hR hlo hc hs hl)

theorem j_icmp_lt (n t : Nat) {x y off : Int} (hd : decode (md_c Y) pc = .ok (.if_icmp .lt off, 3)) (hn : pc + 3 = n) (ht : (pc : Int) + off = (t : Int)) (hx : R32 x) (hy : R32 y) (kt : x < y → J w Y t L S sh g kc ks Q) (kf : ¬ x < y → J w Y n L S sh g kc ks Q) : J w Y pc L (.int (i32 y) :: .int (i32 x) :: S) sh g kc ks Q := by
  subst hn
  intro p l e s m args below meth c H locs cells slots Z ls C hZ hR hlo hc hs hl
  exact lv_icmp_lt C.1 C.2.1 hd ht (fun q => kt ((i32_lt hx hy).mp q) p l e s m args below meth c H locs cells slots Z ls C hZ hR hlo hc hs hl) (fun q => kf (fun z => q ((i32_lt hx hy).mpr z)) p l e s m args below meth c H locs cells slots Z ls C hZ hR hlo hc hs hl)

theorem j_icmp_le (n t : Nat) {x y off : Int} (hd : decode (md_c Y) pc = .ok (.if_icmp .le off, 3)) (hn : pc + 3 = n) (ht : (pc : Int) + off = (t : Int)) (hx : R32 x) (hy : R32 y) (kt : x ≤ y → J w Y t L S sh g kc ks Q) (kf : ¬ x ≤ y → J w Y n L S sh g kc ks Q) : J w Y pc L (.int (i32 y) :: .int (i32 x) :: S) sh g kc ks Q := by
  subst hn
  intro p l e s m args below meth c H locs cells slots Z ls C hZ hR hlo hc hs hl
  exact lv_icmp_le C.1 C.2.1 hd ht (fun q => kt ((i32_le hx hy).mp q) p l e s m args below meth c H locs cells slots Z ls C hZ hR hlo hc hs hl) (fun q => kf (fun z => q ((i32_le hx hy).mpr z)) p l e s m args below meth c H locs cells slots Z ls C hZ hR hlo hc hs hl)

theorem j_icmp_gt (n t : Nat) {x y off : Int} (hd : decode (md_c Y) pc = .ok (.if_icmp .gt off, 3)) (hn : pc + 3 = n) (ht : (pc : Int) + off = (t : Int)) (hx : R32 x) (hy : R32 y) (kt : y < x → J w Y t L S sh g kc ks Q) (kf : ¬ y < x → J w Y n L S sh g kc ks Q) : J w Y pc L (.int (i32 y) :: .int (i32 x) :: S) sh g kc ks Q := by
  subst hn
  intro p l e s m args below meth c H locs cells slots Z ls C hZ hR hlo hc hs hl
  exact lv_icmp_gt C.1 C.2.1 hd ht (fun q => kt ((i32_gt hx hy).mp q) p l e s m args below meth c H locs cells slots Z ls C hZ hR hlo hc hs hl) (fun q => kf (fun z => q ((i32_gt hx hy).mpr z)) p l e s m args below meth c H locs cells slots Z ls C hZ hR hlo hc hs hl)

theorem j_icmp_ge (n t : Nat) {x y off : Int} (hd : decode (md_c Y) pc = .ok (.if_icmp .ge off, 3)) (hn : pc + 3 = n) (ht : (pc : Int) + off = (t : Int)) (hx : R32 x) (hy : R32 y) (kt : y ≤ x → J w Y t L S sh g kc ks Q) (kf : ¬ y ≤ x → J w Y n L S sh g kc ks Q) : J w Y pc L (.int (i32 y) :: .int (i32 x) :: S) sh g kc ks Q := by
  subst hn
  intro p l e s m args below meth c H locs cells slots Z ls C hZ hR hlo hc hs hl
  exact lv_icmp_ge C.1 C.2.1 hd ht (fun q => kt ((i32_ge hx hy).mp q) p l e s m args below meth c H locs cells slots Z ls C hZ hR hlo hc hs hl) (fun q => kf (fun z => q ((i32_ge hx hy).mpr z)) p l e s m args below meth c H locs cells slots Z ls C hZ hR hlo hc hs hl)

theorem j_if_eq (n t : Nat) {x off : Int} (hd : decode (md_c Y) pc = .ok (.ifCond .eq off, 3)) (hn : pc + 3 = n) (ht : (pc : Int) + off = (t : Int)) (hx : R32 x) (kt : x = 0 → J w Y t L S sh g kc ks Q) (kf : ¬ x = 0 → J w Y n L S sh g kc ks Q) : J w Y pc L (.int (i32 x) :: S) sh g kc ks Q := by
  subst hn
  intro p l e s m args below meth c H locs cells slots Z ls C hZ hR hlo hc hs hl
  exact lv_if_eq C.1 C.2.1 hd ht (fun q => kt ((z_eq hx).mp q) p l e s m args below meth c H locs cells slots Z ls C hZ hR hlo hc hs hl) (fun q => kf (fun z => q ((z_eq hx).mpr z)) p l e s m args below meth c H locs cells slots Z ls C hZ hR hlo hc hs hl)

theorem j_if_lt (n t : Nat) {x off : Int} (hd : decode (md_c Y) pc = .ok (.ifCond .lt off, 3)) (hn : pc + 3 = n) (ht : (pc : Int) + off = (t : Int)) (hx : R32 x) (kt : x < 0 → J w Y t L S sh g kc ks Q) (kf : ¬ x < 0 → J w Y n L S sh g kc ks Q) : J w Y pc L (.int (i32 x) :: S) sh g kc ks Q := by
  subst hn
  intro p l e s m args below meth c H locs cells slots Z ls C hZ hR hlo hc hs hl
  exact lv_if_lt C.1 C.2.1 hd ht (fun q => kt ((z_lt hx).mp q) p l e s m args below meth c H locs cells slots Z ls C hZ hR hlo hc hs hl) (fun q => kf (fun z => q ((z_lt hx).mpr z)) p l e s m args below meth c H locs cells slots Z ls C hZ hR hlo hc hs hl)

theorem j_if_le (n t : Nat) {x off : Int} (hd : decode (md_c Y) pc = .ok (.ifCond .le off, 3)) (hn : pc + 3 = n) (ht : (pc : Int) + off = (t : Int)) (hx : R32 x) (kt : x ≤ 0 → J w Y t L S sh g kc ks Q) (kf : ¬ x ≤ 0 → J w Y n L S sh g kc ks Q) : J w Y pc L (.int (i32 x) :: S) sh g kc ks Q := by
  subst hn
  intro p l e s m args below meth c H locs cells slots Z ls C hZ hR hlo hc hs hl
  exact lv_if_le C.1 C.2.1 hd ht (fun q => kt ((z_le hx).mp q) p l e s m args below meth c H locs cells slots Z ls C hZ hR hlo hc hs hl) (fun q => kf (fun z => q ((z_le hx).mpr z)) p l e s m args below meth c H locs cells slots Z ls C hZ hR hlo hc hs hl)

theorem j_if_gt (n t : Nat) {x off : Int} (hd : decode (md_c Y) pc = .ok (.ifCond .gt off, 3)) (hn : pc + 3 = n) (ht : (pc : Int) + off = (t : Int)) (hx : R32 x) (kt : 0 < x → J w Y t L S sh g kc ks Q) (kf : ¬ 0 < x → J w Y n L S sh g kc ks Q) : J w Y pc L (.int (i32 x) :: S) sh g kc ks Q := by
  subst hn
  intro p l e s m args below meth c H locs cells slots Z ls C hZ hR hlo hc hs hl
  exact lv_if_gt C.1 C.2.1 hd ht (fun q => kt ((z_gt hx).mp q) p l e s m args below meth c H locs cells slots Z ls C hZ hR hlo hc hs hl) (fun q => kf (fun z => q ((z_gt hx).mpr z)) p l e s m args below meth c H locs cells slots Z ls C hZ hR hlo hc hs hl)

theorem j_if_ge (n t : Nat) {x off : Int} (hd : decode (md_c Y) pc = .ok (.ifCond .ge off, 3)) (hn : pc + 3 = n) (ht : (pc : Int) + off = (t : Int)) (hx : R32 x) (kt : 0 ≤ x → J w Y t L S sh g kc ks Q) (kf : ¬ 0 ≤ x → J w Y n L S sh g kc ks Q) : J w Y pc L (.int (i32 x) :: S) sh g kc ks Q := by
  subst hn
  intro p l e s m args below meth c H locs cells slots Z ls C hZ hR hlo hc hs hl
  exact lv_if_ge C.1 C.2.1 hd ht (fun q => kt ((z_ge hx).mp q) p l e s m args below meth c H locs cells slots Z ls C hZ hR hlo hc hs hl) (fun q => kf (fun z => q ((z_ge hx).mpr z)) p l e s m args below meth c H locs cells slots Z ls C hZ hR hlo hc hs hl)

theorem j_icmp_ne (n t : Nat) {x y off : Int} (hd : decode (md_c Y) pc = .ok (.if_icmp .ne off, 3)) (hn : pc + 3 = n) (ht : (pc : Int) + off = (t : Int)) (hx : R32 x) (hy : R32 y) (kt : ¬ x = y → J w Y t L S sh g kc ks Q) (kf : x = y → J w Y n L S sh g kc ks Q) : J w Y pc L (.int (i32 y) :: .int (i32 x) :: S) sh g kc ks Q := by
  subst hn
  intro p l e s m args below meth c H locs cells slots Z ls C hZ hR hlo hc hs hl
  exact lv_icmp_ne C.1 C.2.1 hd ht (fun q => kt (fun z => q ((i32_inj hx hy).mpr z)) p l e s m args below meth c H locs cells slots Z ls C hZ hR hlo hc hs hl) (fun q => kf ((i32_inj hx hy).mp q) p l e s m args below meth c H locs cells slots Z ls C hZ hR hlo hc hs hl)

theorem j_if_ne (n t : Nat) {x off : Int} (hd : decode (md_c Y) pc = .ok (.ifCond .ne off, 3)) (hn : pc + 3 = n) (ht : (pc : Int) + off = (t : Int)) (hx : R32 x) (kt : ¬ x = 0 → J w Y t L S sh g kc ks Q) (kf : x = 0 → J w Y n L S sh g kc ks Q) : J w Y pc L (.int (i32 x) :: S) sh g kc ks Q := by
  subst hn
  intro p l e s m args below meth c H locs cells slots Z ls C hZ hR hlo hc hs hl
  exact lv_if_ne C.1 C.2.1 hd ht (fun q => kt (fun z => q ((z_eq hx).mpr z)) p l e s m args below meth c H locs cells slots Z ls C hZ hR hlo hc hs hl) (fun q => kf ((z_eq hx).mp q) p l e s m args below meth c H locs cells slots Z ls C hZ hR hlo hc hs hl)

theorem j_goto (t : Nat) {off : Int} (hd : decode (md_c Y) pc = .ok (.goto off, 3)) (ht : (pc : Int) + off = (t : Int)) (kk : J w Y t L S sh g kc ks Q) : J w Y pc L S sh g kc ks Q := by
  intro p l e s m args below meth c H locs cells slots Z ls C hZ hR hlo hc hs hl
  exact lv_goto C.1 C.2.1 hd ht (kk p l e s m args below meth c H locs cells slots Z ls C hZ hR hlo hc hs hl)

theorem j_ifnonnull (t : Nat) {a : Nat} {off : Int} (hd : decode (md_c Y) pc = .ok (.ifnonnull off, 3)) (ht : (pc : Int) + off = (t : Int)) (kk : J w Y t L S sh g kc ks Q) : J w Y pc L (.ref a :: S) sh g kc ks Q := by
  intro p l e s m args below meth c H locs cells slots Z ls C hZ hR hlo hc hs hl
  exact lv_ifnonnull C.1 C.2.1 hd ht (kk p l e s m args below meth c H locs cells slots Z ls C hZ hR hlo hc hs hl)

theorem j_ifnull (n : Nat) {a : Nat} {off : Int} (hd : decode (md_c Y) pc = .ok (.ifnull off, 3)) (hn : pc + 3 = n) (kk : J w Y n L S sh g kc ks Q) : J w Y pc L (.ref a :: S) sh g kc ks Q := by
  subst hn
  intro p l e s m args below meth c H locs cells slots Z ls C hZ hR hlo hc hs hl
  exact lv_ifnull C.1 C.2.1 hd (kk p l e s m args below meth c H locs cells slots Z ls C hZ hR hlo hc hs hl)

theorem j_ifnullN (t : Nat) {off : Int} (hd : decode (md_c Y) pc = .ok (.ifnull off, 3)) (ht : (pc : Int) + off = (t : Int)) (kk : J w Y t L S sh g kc ks Q) : J w Y pc L (.null :: S) sh g kc ks Q := by
  intro p l e s m args below meth c H locs cells slots Z ls C hZ hR hlo hc hs hl
  exact lv_ifnullN C.1 C.2.1 hd ht (kk p l e s m args below meth c H locs cells slots Z ls C hZ hR hlo hc hs hl)

theorem j_ifnonnullN (n : Nat) {off : Int} (hd : decode (md_c Y) pc = .ok (.ifnonnull off, 3)) (hn : pc + 3 = n) (kk : J w Y n L S sh g kc ks Q) : J w Y pc L (.null :: S) sh g kc ks Q := by
  subst hn
  intro p l e s m args below meth c H locs cells slots Z ls C hZ hR hlo hc hs hl
  exact lv_ifnonnullN C.1 C.2.1 hd (kk p l e s m args below meth c H locs cells slots Z ls C hZ hR hlo hc hs hl)

theorem j_tabIn (t : Nat) {x dflt lo hi off : Int} {offs : Array Int} {len : Nat} (hd : decode (md_c Y) pc = .ok (.tableswitch dflt lo hi offs, len)) (hx : R32 x) (h1 : lo ≤ x) (h2 : x ≤ hi) (ho : offs[(x - lo).toNat]? = some off) (ht : (pc : Int) + off = (t : Int)) (kk : J w Y t L S sh g kc ks Q) : J w Y pc L (.int (i32 x) :: S) sh g kc ks Q := by
  intro p l e s m args below meth c H locs cells slots Z ls C hZ hR hlo hc hs hl
  exact lv_tableIn C.1 C.2.1 hd (by rw [i32_toInt hx]; omega) (by rw [i32_toInt hx]; omega) (by rw [i32_toInt hx]; exact ho) ht (kk p l e s m args below meth c H locs cells slots Z ls C hZ hR hlo hc hs hl)
theorem j_tabOut (t : Nat) {x dflt lo hi : Int} {offs : Array Int} {len : Nat} (hd : decode (md_c Y) pc = .ok (.tableswitch dflt lo hi offs, len)) (hx : R32 x) (h : x < lo ∨ hi < x) (ht : (pc : Int) + dflt = (t : Int)) (kk : J w Y t L S sh g kc ks Q) : J w Y pc L (.int (i32 x) :: S) sh g kc ks Q := by
  intro p l e s m args below meth c H locs cells slots Z ls C hZ hR hlo hc hs hl
  exact lv_tableOut C.1 C.2.1 hd (by rw [i32_toInt hx]; exact h) ht (kk p l e s m args below meth c H locs cells slots Z ls C hZ hR hlo hc hs hl)
theorem j_lookup (t : Nat) {x dflt off : Int} {ps : Array (Int × Int)} {len : Nat} (hd : decode (md_c Y) pc = .ok (.lookupswitch dflt ps, len)) (hx : R32 x) (hp : (ps.toList.zip (ps.toList.drop 1)).all (fun (a, next) => a.1 < next.1) = true) (ho : Op.lookupswitch.offset ps.toList dflt x = off) (ht : (pc : Int) + off = (t : Int)) (kk : J w Y t L S sh g kc ks Q) : J w Y pc L (.int (i32 x) :: S) sh g kc ks Q := by
  intro p l e s m args below meth c H locs cells slots Z ls C hZ hR hlo hc hs hl
  exact lv_lookup C.1 C.2.1 hd hp (by rw [i32_toInt hx]; exact ho) ht (kk p l e s m args below meth c H locs cells slots Z ls C hZ hR hlo hc hs hl)
theorem j_sub (is : List Nat) {L2 : List (Nat × Value)} (hL : lv_pick L is = L2) (kk : J w Y pc L2 S sh g kc ks Q) : J w Y pc L S sh g kc ks Q := by
  intro p l e s m args below meth c H locs cells slots Z ls C hZ hR hlo hc hs hl
  exact kk p l e s m args below meth c H locs cells slots Z ls C hZ hR hlo hc hs (lv_sub hl is hL)
theorem j_ret {v : Option Value} (hr : RetAt Y pc v) (hq : Q (.inl v) sh g) : J w Y pc L v.toList sh g kc ks Q := by
  intro p l e s m args below meth c H locs cells slots Z ls C hZ hR hlo hc hs hl
  exact hZ.1 v sh g H locs cells slots pc ls hq hR hlo (by omega) (by omega) hr
theorem j_iret {x : Int32} (hd : decode (md_c Y) pc = .ok (.ireturn, 1)) (hr : md_r Y = some .int) (hq : Q (.inl (some (.int x))) sh g) : J w Y pc L [.int x] sh g kc ks Q := j_ret (v := some (.int x)) ⟨hd, Or.inl hr⟩ hq
theorem j_zret {z : Int} (hd : decode (md_c Y) pc = .ok (.ireturn, 1)) (hr : md_r Y = some .boolean) (hz : z = 0 ∨ z = 1) (hq : Q (.inl (some (.int (i32 z)))) sh g) : J w Y pc L [.int (i32 z)] sh g kc ks Q := j_ret (v := some (.int (i32 z))) ⟨hd, Or.inr ⟨.boolean, hr, by rcases hz with rfl | rfl <;> decide +kernel⟩⟩ hq
theorem j_vret (hd : decode (md_c Y) pc = .ok (.return_, 1)) (hr : md_r Y = none) (hq : Q (.inl none) sh g) : J w Y pc L [] sh g kc ks Q := j_ret (v := none) ⟨hd, hr⟩ hq
theorem j_aret {x : Nat} {nm : String} (hd : decode (md_c Y) pc = .ok (.areturn, 1)) (hr : md_r Y = some (.object nm)) (hq : Q (.inl (some (.ref x))) sh g) : J w Y pc L [.ref x] sh g kc ks Q := j_ret (v := some (.ref x)) ⟨hd, nm, hr⟩ hq
theorem j_aretN {nm : String} (hd : decode (md_c Y) pc = .ok (.areturn, 1)) (hr : md_r Y = some (.object nm)) (hq : Q (.inl (some .null)) sh g) : J w Y pc L [.null] sh g kc ks Q := j_ret (v := some .null) ⟨hd, nm, hr⟩ hq
theorem j_lret {x : Int64} (hd : decode (md_c Y) pc = .ok (.lreturn, 1)) (hr : md_r Y = some .long) (hq : Q (.inl (some (.long x))) sh g) : J w Y pc L [.long x] sh g kc ks Q := j_ret (v := some (.long x)) ⟨hd, hr⟩ hq
theorem j_fret {x : UInt32} (hd : decode (md_c Y) pc = .ok (.freturn, 1)) (hr : md_r Y = some .float) (hq : Q (.inl (some (.float x))) sh g) : J w Y pc L [.float x] sh g kc ks Q := j_ret (v := some (.float x)) ⟨hd, hr⟩ hq
theorem j_idiv (n : Nat) {x y : Int} (hd : decode (md_c Y) pc = .ok (.idiv, 1)) (hn : pc + 1 = n) (hx : 0 ≤ x) (hx2 : x ≤ 2147483647) (hy : 0 < y) (hy2 : y ≤ 2147483647) (kk : J w Y n L (.int (i32 (x / y)) :: S) sh g kc ks Q) : J w Y pc L (.int (i32 y) :: .int (i32 x) :: S) sh g kc ks Q := by
  subst hn
  intro p l e s m args below meth c H locs cells slots Z ls C hZ hR hlo hc hs hl
  refine lv_idiv C.1 C.2.1 hd (fun q => absurd ((z_eq ⟨by omega, hy2⟩).mp q) (by omega)) ?_
  rw [i32_pdiv hx hx2 hy hy2]
  exact kk p l e s m args below meth c H locs cells slots Z ls C hZ hR hlo hc hs hl
theorem j_irem (n : Nat) {x y : Int} (hd : decode (md_c Y) pc = .ok (.irem, 1)) (hn : pc + 1 = n) (hx : 0 ≤ x) (hx2 : x ≤ 2147483647) (hy : 0 < y) (hy2 : y ≤ 2147483647) (kk : J w Y n L (.int (i32 (x % y)) :: S) sh g kc ks Q) : J w Y pc L (.int (i32 y) :: .int (i32 x) :: S) sh g kc ks Q := by
  subst hn
  intro p l e s m args below meth c H locs cells slots Z ls C hZ hR hlo hc hs hl
  refine lv_irem C.1 C.2.1 hd (fun q => absurd ((z_eq ⟨by omega, hy2⟩).mp q) (by omega)) ?_
  rw [i32_prem hx hx2 hy hy2]
  exact kk p l e s m args below meth c H locs cells slots Z ls C hZ hR hlo hc hs hl
theorem j_widen {kc2 ks2 : Nat} (h1 : kc2 ≤ kc) (h2 : ks2 ≤ ks) (kk : J w Y pc L S sh g kc2 ks2 Q) : J w Y pc L S sh g kc ks Q := by
  intro p l e s m args below meth c H locs cells slots Z ls C hZ hR hlo hc hs hl
  exact kk p l e s m args below meth c H locs cells slots Z ls C hZ hR hlo (by omega) (by omega) hl
theorem j_top {x y : Int} (h : x = y) (kk : J w Y pc L (.int (i32 y) :: S) sh g kc ks Q) : J w Y pc L (.int (i32 x) :: S) sh g kc ks Q := h ▸ kk
theorem j_lnm (is : List Nat) (kk : J w Y pc L S sh g kc ks Q) : J w Y pc L S sh g kc ks Q := kk
theorem j_mn (kk : ∀ g2 : Mem, g2 = g → J w Y pc L S sh g2 kc ks Q) : J w Y pc L S sh g kc ks Q := kk g rfl
theorem j_mem {g2 : Mem} (h : g = g2) (kk : J w Y pc L S sh g2 kc ks Q) : J w Y pc L S sh g kc ks Q := h ▸ kk
end JA
