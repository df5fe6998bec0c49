/-- the tables' words that stay true -/
def lw_good : List Cond := lw_tbl.filter goodWord
theorem lg_of {x : Cond} (h : x ∈ lw_tbl) (hg : goodWord x = true) : x ∈ lw_good := List.mem_filter.mpr ⟨h, hg⟩
theorem lg_good {ws : List Cond} (h : ∀ x ∈ ws, x ∈ lw_good) : GoodIn lw_good ws := fun x hx => ⟨h x hx, good_of_word (List.mem_filter.mp (h x hx)).2⟩
/-! THE ABSTRACT LAYER. A world w: class numbers, array classes, the base B (all our cells lie at B or above), the heap at the law's start.
A memory g gives an Int for each address and slot; a shape sh tells which kind of thing lies at an address (class number below 10, arrays from 10 on), its length, its references. -/
abbrev Wd : Type := va_G × (Nat → ClassId) × Nat × Heap
abbrev Mem : Type := Nat → Nat → Int
abbrev Kd : Type := Nat × Nat × (Nat → Option Nat)
abbrev Shp : Type := (Nat → Option Kd) × Option Nat
abbrev Res : Type := Option Value ⊕ String
/-- a method: name, bytes, locals, type of the answer, its class, frames, locals' words, cells, slots, is it a constructor, its handlers -/
abbrev MD : Type := MethodName × ByteArray × Nat × Option FieldType × String × Nat × Nat × Nat × Nat × Bool × List (Nat × Nat × Nat × Nat)
abbrev md_y (Y : MD) : MethodName := Y.1
abbrev md_c (Y : MD) : ByteArray := Y.2.1
abbrev md_n (Y : MD) : Nat := Y.2.2.1
abbrev md_r (Y : MD) : Option FieldType := Y.2.2.2.1
abbrev md_o (Y : MD) : String := Y.2.2.2.2.1
abbrev md_f (Y : MD) : Nat := Y.2.2.2.2.2.1
abbrev md_l (Y : MD) : Nat := Y.2.2.2.2.2.2.1
abbrev md_mc (Y : MD) : Nat := Y.2.2.2.2.2.2.2.1
abbrev md_ms (Y : MD) : Nat := Y.2.2.2.2.2.2.2.2.1
abbrev md_i (Y : MD) : Bool := Y.2.2.2.2.2.2.2.2.2.1
abbrev md_h (Y : MD) : List (Nat × Nat × Nat × Nat) := Y.2.2.2.2.2.2.2.2.2.2
abbrev JR (Y : MD) : Room := { frames := md_f Y, cells := md_mc Y, slots := md_ms Y, locals := md_l Y }
def i32 (z : Int) : Int32 := Int32.ofInt z
def i64 (z : Int) : Int64 := Int64.ofInt z
abbrev R32 (z : Int) : Prop := -2147483648 ≤ z ∧ z ≤ 2147483647
theorem r32 {z : Int} (h1 : -2147483648 ≤ z) (h2 : z ≤ 2147483647) : R32 z := ⟨h1, h2⟩
theorem i32_toInt {z : Int} (h : R32 z) : (i32 z).toInt = z := by
  obtain ⟨h1, h2⟩ := h
  show (Int32.ofInt z).toInt = z
  rw [Int32.toInt_ofInt]
  show Int.bmod z 4294967296 = z
  exact Int.bmod_eq_of_le (by omega) (by omega)
theorem i32_asI (x : Int32) : i32 x.toInt = x := Int32.ofInt_toInt x
theorem i32_rng (x : Int32) : R32 x.toInt := by
  have h1 := Int32.le_toInt x
  have h2 := Int32.toInt_lt x
  exact ⟨by omega, by omega⟩
theorem i32_inj {x y : Int} (hx : R32 x) (hy : R32 y) : i32 x = i32 y ↔ x = y :=
  ⟨fun h => by rw [← i32_toInt hx, ← i32_toInt hy, h], fun h => by rw [h]⟩
theorem i32_lt {x y : Int} (hx : R32 x) (hy : R32 y) : i32 x < i32 y ↔ x < y := by
  rw [Int32.lt_iff_toInt_lt, i32_toInt hx, i32_toInt hy]
theorem i32_le {x y : Int} (hx : R32 x) (hy : R32 y) : i32 x ≤ i32 y ↔ x ≤ y := by
  rw [Int32.le_iff_toInt_le, i32_toInt hx, i32_toInt hy]
theorem i32_add (x y : Int) : i32 x + i32 y = i32 (x + y) := (Int32.ofInt_add x y).symm
theorem i32_sub (x y : Int) : i32 x - i32 y = i32 (x - y) := (Int32.ofInt_sub x y).symm
theorem i32_mul (x y : Int) : i32 x * i32 y = i32 (x * y) := (Int32.ofInt_mul x y).symm
theorem i64_add (x y : Int) : i64 x + i64 y = i64 (x + y) := (Int64.ofInt_add x y).symm
theorem i64_mul (x y : Int) : i64 x * i64 y = i64 (x * y) := (Int64.ofInt_mul x y).symm
theorem i64_toInt {z : Int} (h1 : -9223372036854775808 ≤ z) (h2 : z < 9223372036854775808) : (i64 z).toInt = z := by
  show (Int64.ofInt z).toInt = z
  rw [Int64.toInt_ofInt]
  show Int.bmod z 18446744073709551616 = z
  exact Int.bmod_eq_of_le (by omega) (by omega)
theorem i32_i64 {z : Int} (h : R32 z) : (i32 z).toInt64 = i64 z := by
  apply Int64.toInt_inj.mp
  rw [Int32.toInt_toInt64, i32_toInt h, i64_toInt (by have := h.1; omega) (by have := h.2; omega)]
theorem i32_nat (n : Nat) : i32 (n : Int) = nI n := rfl
theorem i32_clamp {z : Int} {n : Nat} (h : z = (n : Int)) (hn : n < 2147483648) : (i32 z).toNatClampNeg = n := by
  subst h
  exact nI_clamp (by omega)
theorem i32_in {z : Int} {n N : Nat} (h : z = (n : Int)) (hn : n < N) (hN : N < 2147483648) : vp_in (i32 z) N := by
  subst h
  exact vp_in_nI hn (by omega)
/-- the fields' types of the classes of vwCl -/
def f_ty (ci : Nat) : Nat → FieldType := match ci with
  | 0 => tyX0 | 1 => tyX1 | 2 => tyX2 | 3 => tyX3 | 4 => tyX4 | 5 => tyX5 | 6 => tyX6 | 7 => tyX8 | 8 => tyX9 | _ => tyX10
def f_n (ci : Nat) : Nat := match ci with
  | 0 => 13 | 1 => 19 | 2 => 8 | 3 => 3 | 4 => 3 | 5 => 4 | 6 => 5 | 7 => 15 | 8 => 7 | _ => 21
/-- a slot's value by its type -/
def f_val (t : FieldType) (z : Int) (r : Option Nat) : Value := match t with
  | .long => .long (i64 z)
  | .object _ => va_rf r
  | .array _ => va_rf r
  | _ => .int (i32 z)
def f_rng (t : FieldType) (z : Int) : Prop := match t with
  | .long => -9223372036854775808 ≤ z ∧ z < 9223372036854775808
  | .boolean => z = 0 ∨ z = 1
  | _ => R32 z
def k_rng (k : Kd) (j : Nat) (z : Int) : Prop :=
  if k.1 < 10 then f_rng (f_ty k.1 j) z else if k.1 = 11 then -128 ≤ z ∧ z ≤ 127 else if k.1 = 10 then R32 z else True
def c_E (aC : Nat → ClassId) (k : Kd) (row : Nat → Int) : va_E :=
  if k.1 < 10 then .inr (k.1, (List.range (f_n k.1)).map fun j => f_val (f_ty k.1 j) (row j) (k.2.2 j))
  else if k.1 = 10 then .inl (aC 10, k.2.1, .inl fun j => i32 (row j))
  else if k.1 = 11 then .inl (aC 11, k.2.1, .inl fun j => i32 (row j))
  else if k.1 = 12 then .inl (aC 12, k.2.1, .inr (.inl fun j => i64 (row j)))
  else if k.1 = 13 then .inl (aC 13, k.2.1, .inr (.inr (.inr (.inl fun j => UInt64.ofNat (row j).toNat))))
  else .inl (aC k.1, k.2.1, .inr (.inr (.inr (.inr k.2.2))))
def t_ys (aC : Nat → ClassId) : List (ClassId × FieldType) :=
  [(aC 10, .int), (aC 11, .byte), (aC 12, .long), (aC 13, .double), (aC 14, .object RX2), (aC 15, .object RX6), (aC 16, .object RX5), (aC 17, .object RX4), (aC 18, .object RX0), (aC 19, .object RX1), (aC 20, .array .int)]
def up2 (g : Mem) (a k : Nat) (x : Int) : Mem := fun b j => if b = a ∧ j = k then x else g b j
theorem up2_s {g : Mem} {a k : Nat} {x : Int} : up2 g a k x a k = x := if_pos ⟨rfl, rfl⟩
theorem up2_a {g : Mem} {a k b j : Nat} {x : Int} (h : b ≠ a) : up2 g a k x b j = g b j := if_neg fun q => h q.1
theorem up2_k {g : Mem} {a k b j : Nat} {x : Int} (h : j ≠ k) : up2 g a k x b j = g b j := if_neg fun q => h q.2
/-- the heap holds the memory -/
def Rep (w : Wd) (sh : Shp) (g : Mem) (H : Heap) : Prop :=
  (∀ a k, sh.1 a = some k → w.2.2.1 ≤ a ∧ va_at w.1 vwCl (a, c_E w.2.1 k (g a)) H ∧ k.2.1 < 2147483648 ∧ ∀ j, k_rng k j (g a j)) ∧
  w.2.2.1 ≤ H.size ∧ (∀ q, q < w.2.2.1 → H[q]? = w.2.2.2[q]?) ∧ ∀ n, sh.2 = some n → H.size = n
/-- words of the tables that stay true as the classes' faces do -/
def lw_face : List Cond := lw_tbl.filter fun x => x.onTables && x.faceAtom
/-- classes of exceptions that aren't one another's -/
def nc_all : List (String × String) := [("java/lang/IllegalArgumentException", "java/lang/IndexOutOfBoundsException"), ("java/lang/IllegalStateException", "java/lang/IndexOutOfBoundsException"), ("java/lang/IllegalStateException", "java/lang/IllegalArgumentException"), ("java/util/NoSuchElementException", "java/lang/IndexOutOfBoundsException")]
/-- the String constants: class, entry, text, number -/
def st_all : List (String × Nat × String × Nat) := [(RX8, 61, "exchange", 0), (RX8, 82, "line", 1), (RX8, 87, "group", 2), (RX8, 92, "route", 3), (RX8, 97, "call", 4), (RX8, 174, "guard", 5), (RX8, 176, "timeout", 6), (RX8, 178, "work", 7),
  (RX10, 180, "exchange", 0), (RX10, 139, "line", 1), (RX10, 148, "group", 2), (RX10, 153, "route", 3), (RX10, 158, "call", 4), (RX10, 163, "guard", 5), (RX10, 169, "timeout", 6), (RX10, 171, "work", 7)]
def st_len : List Nat := [8, 4, 5, 5, 4, 5, 7, 4]
def st_byt : List (List Int32) := [[101, 120, 99, 104, 97, 110, 103, 101], [108, 105, 110, 101], [103, 114, 111, 117, 112], [114, 111, 117, 116, 101], [99, 97, 108, 108], [103, 117, 97, 114, 100], [116, 105, 109, 101, 111, 117, 116], [119, 111, 114, 107]]
/-- the script's numbers, out of the heap at the law's start; it lies at w.2.1 300 and has w.2.1 301 of them -/
def scrW (w : Wd) (j : Nat) : Int32 := match w.2.2.2[w.2.1 300]? with
  | some q => (match q.slots[j]? with
    | some (.int v) => v
    | _ => 0)
  | none => 0
/-- classes that there are arrays of -/
def ao_all : List String := [RX2, RX6, RX5, RX4, RX0, RX1]
theorem va_AOA.spec {ty : FieldType} {s : State} (h : va_AOA ty s) :
    ∃ comp c k, s.vm.findClass (FieldType.array ty).toString = some comp ∧ (s.vm.classes.findIdx? fun x => match x.kind with | .array component _ => component == comp | _ => false) = some c ∧ s.vm.classes[c]? = some k ∧ k.kind = .array comp (.array ty) ∧
      s.vm.findClass ("[" ++ (FieldType.array ty).toString) = some c := by
  unfold va_AOA Cond.before at h
  simp only [Cond.holds, Cond.value, beq_iff_eq] at h
  cases hc : s.vm.findClass (FieldType.array ty).toString with
  | none => simp [hc] at h
  | some comp =>
    simp only [hc, Option.bind_some, Option.bind_eq_some_iff, Option.map_eq_some_iff] at h
    obtain ⟨c, hi, k, hk, hb⟩ := h
    obtain ⟨hlt, hp, -⟩ := Array.findIdx?_eq_some_iff_getElem.mp hi
    have hkk : s.vm.classes[c] = k := (Array.getElem?_eq_some_iff.mp hk).2
    rw [hkk] at hp
    cases hkind : k.kind with
    | array component ty =>
      rw [hkind] at hb hp
      simp at hb hp
      exact ⟨comp, c, k, rfl, hi, hk, by rw [hkind, hp, hb.1], hb.2⟩
    | _ => rw [hkind] at hb; simp at hb
theorem va_AOA.moved {ty : FieldType} {u U : State} (hvm : u.vm.Alike U.vm) (h : va_AOA ty u) : va_AOA ty U := by
  obtain ⟨comp, c, k, h1, h2, h3, h4, h5⟩ := va_AOA.spec h
  obtain ⟨k', hk', he⟩ := hvm.2.2 _ _ h3
  have hi : (U.vm.classes.findIdx? fun (x : Class) => match x.kind with | .array component _ => component == comp | _ => false) = some c := by
    have e1 := va_idx_bare U.vm comp
    have e2 := va_idx_bare u.vm comp
    first | rw [hvm.bare_eq] at e2 | rw [← hvm.bare_eq] at e2
    exact e1.symm.trans (e2.trans h2)
  have hkind : k'.kind = .array comp (.array ty) := by rw [he]; exact h4
  have f1 : U.vm.findClass (FieldType.array ty).toString = some comp := by rw [hvm.findClass]; exact h1
  have f2 : U.vm.findClass ("[" ++ (FieldType.array ty).toString) = some c := by rw [hvm.findClass]; exact h5
  unfold va_AOA Cond.before Cond.holds
  simp only [Cond.value]
  rw [f1, Option.bind_some]
  refine (congrArg (fun o : Option Nat => (o.bind (fun c => (U.vm.classes[c]?).map fun (k : Class) => match k.kind with | .array _ ty9 => decide (ty9 = FieldType.array ty) && decide (U.vm.findClass ("[" ++ (FieldType.array ty).toString) = some c) | _ => false) == some true)) hi).trans ?_
  simp [hk', hkind, f2]
/-- what holds of the tables and of what lies below the base; the Strings lie at w.2.1 (100 + i), their bytes at w.2.1 (200 + i) -/
def WK (w : Wd) (U : State) : Prop :=
  va_K w.1 vwCl (t_ys w.2.1) U ∧ vx_Zq Bundle.tN "UNASSIGNED_STACK" Bundle.steD (fun q => w.2.2.1 ≤ q) U w.2.2.2 ∧ vx_Zq Bundle.tN "SUPPRESSED_SENTINEL" Bundle.listD (fun q => w.2.2.1 ≤ q) U w.2.2.2 ∧ w.2.2.1 = w.2.2.2.size ∧
  (∀ x ∈ lw_face, x.before #[] U = true) ∧ (∀ q ∈ nc_all, va_Nc q.1 q.2 U) ∧ (∀ q ∈ st_all, vk_R q.1 q.2.1 q.2.2.1 (w.2.1 (100 + q.2.2.2)) U) ∧
  vk_S 8 st_len st_byt (fun i => w.2.1 (100 + i)) (fun i => w.2.1 (200 + i)) (fun q => w.2.2.1 ≤ q) U w.2.2.2 ∧
  va_Z "java/lang/String" "COMPACT_STRINGS" "Z" (.int 1) (fun q => w.2.2.1 ≤ q) U w.2.2.2 ∧ va_Zq "jdk/internal/util/Preconditions" "SIOOBE_FORMATTER" "Ljava/util/function/BiFunction;" (fun q => w.2.2.1 ≤ q) U w.2.2.2 ∧
  w.2.1 300 < w.2.2.1 ∧ va_X (w.2.1 300) (w.2.1 301) (scrW w) U w.2.2.2 ∧ (∀ C ∈ ao_all, va_AO C U) ∧ va_AOA .int U ∧ va_Nw (.methodLinkNest RX8 180 yX9_mostOf RX9) U
theorem WK.warm {w : Wd} {u U : State} (hW : u.WarmedH U.vm) (h : WK w u) : WK w U := by
  have hvm := hW.alike
  obtain ⟨h1, h2, h3, h4, h5, h6, h7, h8, h9, h10, h11, h12, h13, h14, h15⟩ := h
  refine ⟨va_K.moved hvm h1, vx_Zq.moved hvm h2, vx_Zq.moved hvm h3, h4, fun x hx => ?_, fun q hq => (h6 q hq).moved hvm, fun q hq => (h7 q hq).warm hW, vk_S.moved hvm h8, va_Z.moved hvm h9, va_Zq.moved hvm h10, h11, va_X.moved hvm h12, fun C hC => (h13 C hC).moved hvm, h14.moved hvm, va_Nw.warmM hW h15⟩
  have hb := (List.mem_filter.mp hx).2
  simp only [Bool.and_eq_true] at hb
  have e := Cond.faceAtom_setVm hvm x hb.2 (h5 x hx)
  rw [Cond.onTables_vm (A := #[]) (A' := #[]) (U := u) (U' := U) U.vm x hb.1] at e
  exact e
def JC (w : Wd) (Y : MD) (p : Program) (l : Launch) (s : State) (m : MethodId) (args : Array Value) (meth : Method) (c : Code) : Prop :=
  p.tables.exec = Jvm.exec ∧ c.code = md_c Y ∧ c.maxLocals = md_n Y ∧ s.vm.findClass (md_o Y) = some m.cls ∧ (∀ x ∈ lw_good, x.before args s = true) ∧ WK w s ∧
  (∀ q, q < w.2.2.1 → s.heap[q]? = w.2.2.2[q]?) ∧ w.2.2.1 ≤ s.heap.size ∧ (md_i Y = true → meth.name = "<init>") ∧ l.stackTraces = false ∧ c.exceptionTable.toList = tableOf (md_h Y) ∧ meth.sig.returnType = md_r Y ∧ meth.locks = false
/-- the instruction at pc gives v back -/
def RetAt (Y : MD) (pc : Nat) : Option Value → Prop
  | none => decode (md_c Y) pc = .ok (.return_, 1) ∧ md_r Y = none
  | some (.int v) => decode (md_c Y) pc = .ok (.ireturn, 1) ∧ (md_r Y = some .int ∨ ∃ ty, md_r Y = some ty ∧ narrow ty (.int v) = .int v)
  | some (.long _) => decode (md_c Y) pc = .ok (.lreturn, 1) ∧ md_r Y = some .long
  | some (.float _) => decode (md_c Y) pc = .ok (.freturn, 1) ∧ md_r Y = some .float
  | some .null => decode (md_c Y) pc = .ok (.areturn, 1) ∧ ∃ n, md_r Y = some (.object n)
  | some (.ref _) => decode (md_c Y) pc = .ok (.areturn, 1) ∧ ∃ n, md_r Y = some (.object n)
  | _ => False
/-- 'throw new cls()' begins at pc -/
def ThrowAt (Y : MD) (pc : Nat) (cls : String) : Prop := ∃ ik ic : Nat, ∃ names : List String,
  Bundle.fit cls = true ∧ (∀ n ∈ names, Bundle.fit n = true) ∧ Cond.classLink (md_o Y) ik cls ∈ lw_good ∧ Cond.initialized cls ∈ lw_good ∧
  (∀ w ∈ vx_at0 (md_o Y) ic cls names, w ∈ lw_good ∨ w ∈ lw_face) ∧ (∀ w ∈ Cond.classLink (md_o Y) ik cls :: Cond.initialized cls :: vx_at0 (md_o Y) ic cls names, vx_ot w = true) ∧
  decode (md_c Y) pc = .ok (.new ik, 3) ∧ decode (md_c Y) (pc + 3) = .ok (.dup, 1) ∧ decode (md_c Y) (pc + 4) = .ok (.invokespecial ic, 3) ∧ decode (md_c Y) (pc + 7) = .ok (.athrow, 1) ∧
  md_h Y = [] ∧ names.length + 3 < md_f Y ∧ 13 * (names.length + 1) + 42 ≤ md_l Y
abbrev Post : Type := Res → Shp → Mem → Prop
/-- where the walk must come to: the ends that Q allows lead to Z -/
def JZ (w : Wd) (Y : MD) (Q : Post) (p : Program) (l : Launch) (e : Env) (s : State) (m : MethodId) (args : Array Value) (below : List Frame) (meth : Method) (c : Code) (Z : State → Prop) : Prop :=
  (∀ (v : Option Value) (sh : Shp) (g : Mem) (H : Heap) (locs : List Loc) (cells slots pc : Nat) (ls : Array Slot), Q (.inl v) sh g → Rep w sh g H → (∀ z ∈ locs, w.2.2.1 ≤ z.base) → cells ≤ md_mc Y → slots ≤ md_ms Y → RetAt Y pc v →
    W p l e (JR Y) s m args below meth c H locs cells slots Z (F0 m pc ls v.toList)) ∧
  (∀ (cls : String) (sh : Shp) (g : Mem) (H : Heap) (locs : List Loc) (cells slots pc : Nat) (ls : Array Slot), Q (.inr cls) (sh.1, none) g → Rep w sh g H → (∀ z ∈ locs, w.2.2.1 ≤ z.base) → cells + 1 ≤ md_mc Y → slots + 6 ≤ md_ms Y → ThrowAt Y pc cls → ls.size = md_n Y →
    W p l e (JR Y) s m args below meth c H locs cells slots Z (F0 m pc ls []))
/-- THE JUDGEMENT: the method Y, at pc, with these locals, this stack, this memory, and kc cells and ks slots left to make, ends as Q says -/
def J (w : Wd) (Y : MD) (pc : Nat) (L : List (Nat × Value)) (S : List Value) (sh : Shp) (g : Mem) (kc ks : Nat) (Q : Post) : Prop :=
  ∀ (p : Program) (l : Launch) (e : Env) (s : State) (m : MethodId) (args : Array Value) (below : List Frame) (meth : Method) (c : Code) (H : Heap) (locs : List Loc) (cells slots : Nat) (Z : State → Prop) (ls : Array Slot),
    JC w Y p l s m args meth c → JZ w Y Q p l e s m args below meth c Z → Rep w sh g H → (∀ z ∈ locs, w.2.2.1 ≤ z.base) → cells + kc ≤ md_mc Y → slots + ks ≤ md_ms Y → lv_has ls (md_n Y) L →
    W p l e (JR Y) s m args below meth c H locs cells slots Z (F0 m pc ls S)
/-- a contract of Y at these arguments in this memory -/
def mdW (Y : MD) : Cond := match md_h Y with
  | [] => Cond.code (md_y Y) (md_c Y) (md_n Y) (md_r Y)
  | hh => Cond.codeWith (md_y Y) (md_c Y) (md_n Y) (md_r Y) hh
def CT (w : Wd) (Y : MD) (args : List Value) (sh : Shp) (g : Mem) (Q : Post) : Prop :=
  ∀ l : Launch, l.stackTraces = false → vx_Met l (md_y Y) (mdW Y :: lw_good) (JR Y) (fun v U => v = args.toArray ∧ WK w U ∧ Rep w sh g U.heap)
    (fun _ _ o t => ∃ (v : Option Value) (sh' : Shp) (g' : Mem), o = .returned v ∧ Q (.inl v) sh' g' ∧ Rep w sh' g' t.heap)
    (fun E _ t => ∃ (sh' : Shp) (g' : Mem), Q (.inr E) sh' g' ∧ Rep w sh' g' t.heap) (md_mc Y) (md_ms Y) (fun q => w.2.2.1 ≤ q)
/-- what the tables say of a method: np parameters -/
def MK (Y : MD) (np : Nat) : Prop := mdW Y ∈ lw_good ∧ ((md_y Y).cls ≠ "java/lang/invoke/MethodHandle" ∧ (md_y Y).cls ≠ "java/lang/invoke/VarHandle" ∧ (parseMethodDescriptor (md_y Y).desc).map (fun d => d.parameters.length) = some np) ∧ (md_y Y).cls = md_o Y ∧ Cond.initialized (md_y Y).cls ∈ lw_good
def LK (own : String) (idx : Nat) (Y : MD) : Prop := Cond.methodLink own idx (md_y Y) ∈ lw_good

