/-! things are made: fields written in constructors, new objects and arrays -/
section VXIA
variable {p : Program} {l : Launch} {e : Env} {R : Room} {s : State} {m : MethodId} {args : Array Value} {below : List Frame} {meth : Method} {c : Code} {T : State} {locs : List Loc} {cells slots : Nat}
theorem vx_callI (X : Stand p l e R s m args below meth c T locs cells slots) (hexec : p.tables.exec = Jvm.exec) {own : String} {index : Nat} {y : MethodName} {bytes : ByteArray} {maxL : Nat}
    (hown : s.vm.findClass own = some m.cls) (hy1 : y.name = "<init>") (hlink : (Cond.methodLink own index y).before args s = true) (hinst : (Cond.instanceMethod y).before args s = true)
    (hcode : (Cond.code y bytes maxL none).before args s = true) (hy : y.cls ≠ "java/lang/invoke/MethodHandle" ∧ y.cls ≠ "java/lang/invoke/VarHandle")
    {W9 : Nat} {Pre : Pt → Array Value → Prop} {Post : Pt → Array Value → Option Value → Pt → Prop} {PostX : Pt → Array Value → Addr → Pt → Prop} (hK : vx_Back l R p e below s args y 3 W9 Pre Post PostX)
    {g : JFrame} (hg : g.method = m) (hsize : g.locals.size = c.maxLocals) {a : Addr} {argsL rest : List Value} (hlen : ∀ sig, parseMethodDescriptor y.desc = some sig → argsL.length = sig.parameters.length)
    (hstack : g.stack = argsL.reverse ++ .ref a :: rest) (hW : 2 * g.monitorRoom + (rest.map fun v => v.category).sum ≤ W9) (hdg : decode c.code g.pc = .ok (.invokespecial index, 3))
    (hpre : ∀ vm₁, s.WarmedH vm₁ → Pre ⟨T.setVm vm₁, locs, cells, slots⟩ (Value.ref a :: argsL).toArray) :
    (∃ (v : Option Value) (vm₁ : Vm) (B : Pt), s.WarmedH vm₁ ∧ Stand p l e R s m args below meth c B.U B.locs B.cells B.slots ∧ Post ⟨T.setVm vm₁, locs, cells, slots⟩ (Value.ref a :: argsL).toArray v B ∧
      ∀ target, Steps p.tables e below (B.U.setTop { g with pc := g.pc + 3, stack := v.toList ++ rest }) target → Steps p.tables e below (T.setTop g) target) ∨
    (∃ (q : Addr) (vm₁ : Vm) (B : Pt), s.WarmedH vm₁ ∧ Stand p l e R s m args below meth c B.U B.locs B.cells B.slots ∧ PostX ⟨T.setVm vm₁, locs, cells, slots⟩ (Value.ref a :: argsL).toArray q B ∧
      Steps p.tables e below (T.setTop g) ((B.U.setTop { g with stack := rest }).pushFrame (.throwing q))) := by
  subst hg
  have hpl : e.platform.magicAccessors = ({} : Platform).magicAccessors := by rw [X.admits.platform]
  obtain ⟨mk, methM, cM, kP, vm₁, hnamed, hmethM, hcodeM, -, hlocalsM, -, hkP, -, hW₁, hstep₁⟩ := Steps.initColdArgs (e := e) X.here hexec X.warmed hpl hown hy1 hy hlink hinst hcode (f := g) rfl hlen hstack hdg
  have X₁ := X.noted hW₁
  rcases hK g.method meth c ⟨T.setVm vm₁, locs, cells, slots⟩ { g with stack := rest } (.invokespecial index) mk (Value.ref a :: argsL).toArray X₁ rfl hsize hdg hW (X₁.named hnamed) (hpre vm₁ X₁.warmed) with ⟨v, B, X', hpost, hsteps⟩ | ⟨q, B, X', hpost, hsteps⟩
  · exact Or.inl ⟨v, vm₁, B, X₁.warmed, X', hpost, fun target h => hstep₁ _ fun acts => by rw [doInvoke_state]; exact hsteps.trans h⟩
  · exact Or.inr ⟨q, vm₁, B, X₁.warmed, X', hpost, hstep₁ _ fun acts => by rw [doInvoke_state]; exact hsteps⟩
end VXIA
section VXIB
variable {p : Program} {l : Launch} {e : Env} {R : Room} {s : State} {m : MethodId} {args : Array Value} {below : List Frame} {meth : Method} {c : Code} {H : Heap} {locs : List Loc} {cells slots : Nat}
variable {y : MethodName} {bytes cc : ByteArray} {maxL nL mc ms n index : Nat} {ret : Option FieldType} {ws : List Cond} {rm : Room} {Pc : Array Value → State → Prop} {Qc : Array Value → State → Outcome → State → Prop} {XC : String → State → State → Prop} {free : Addr → Prop} {Ts : List Cond} {own C : String} {b : Addr} {As rest : List Value} {g : JFrame}
theorem vx_runI (S : CallFix p m c cc nL s args Ts own) (hM : vx_Met l y ws rm Pc Qc XC mc ms free) (cw : CallB R s args own index y bytes maxL none ws rm mc ms n ∧ y.name = "<init>" ∧ (Cond.instanceMethod y).before args s = true) (hp : PreS s H Pc (.ref b :: As))
    (hg : g.method = m) (hn : As.length = n) (hsize : g.locals.size = nL) (hstack : g.stack = As.reverse ++ .ref b :: rest) (hW : 2 * g.monitorRoom + (rest.map fun v => v.category).sum ≤ 8) (hdg : decode cc g.pc = .ok (.invokespecial index, 3)) (hf : cells + mc ≤ R.cells ∧ slots + ms ≤ R.slots) :
    vx_Run p l e R s m args below meth c H locs cells slots mc ms g rest (Qc (Value.ref b :: As).toArray) XC free := by
  have hK : vx_Back l R p e below s args y 3 8 (PreOf R mc ms Pc) (PostOf Qc mc ms free) (vx_Post XC mc ms free) := vx_callBack cw.1 hM hp.1
  obtain ⟨⟨-, -, -, -, -, -, hcode, -, hy, hlen, hl⟩, hy1, hin⟩ := cw
  obtain ⟨hx, hb, hml, ho, -⟩ := S
  have hPc := hp.2
  intro T hT X
  rcases vx_callI X hx (bytes := bytes) (maxL := maxL) ho hy1 hl hin hcode hy hK hg (hsize.trans hml.symm) (a := b) (argsL := As) (rest := rest) (fun sig h => hn.trans (hlen sig h)) hstack hW (by rw [hb]; exact hdg)
    (fun vm₁ hW₁ => ⟨hf.1, hf.2, hPc (T.setVm vm₁) hT hW₁⟩) with ⟨v, vm₁, ⟨U', l2, c2, s2⟩, hW₁, X', ⟨g', mk, t, L, e1, e2, hq, h1, hL, h2, h3⟩, st⟩ | ⟨q, vm₁, ⟨U', l2, c2, s2⟩, hW₁, X', ⟨g', mk, t, L, E, ce, e1, e2, hq, hce, hcv, hcl, h1, hL, h2, h3⟩, st⟩
  · dsimp only [Pt.U, Pt.locs, Pt.cells, Pt.slots] at X' e1 e2 h1 h2 h3 st
    subst h1; subst h2; subst h3
    exact Or.inl ⟨v, (T.setVm vm₁).calling g' mk (Value.ref b :: As).toArray, t, U', L, hT, X', hL, e1, e2, hq, st⟩
  · dsimp only [Pt.U, Pt.locs, Pt.cells, Pt.slots] at X' e1 e2 h1 h2 h3 st hcl
    subst h1; subst h2; subst h3
    exact Or.inr ⟨q, (T.setVm vm₁).calling g' mk (Value.ref b :: As).toArray, t, U', L, E, ce, hT, X', hL, e1, e2, hq, hce, hcv, vx_cls hW₁ hcl, st⟩
end VXIB

/-- the thing at a is now of kind kd -/
def shP (sh : Shp) (a : Nat) (kd : Kd) : Shp := (fun q => if q = a then some kd else sh.1 q, sh.2)
/-- a thing more, at the heap's end a -/
def shN (sh : Shp) (a : Nat) (kd : Kd) : Shp := (fun q => if q = a then some kd else sh.1 q, some (a + 1))
def gN (g : Mem) (a : Nat) : Mem := fun q j => if q = a then 0 else g q j
def kdR (kd : Kd) (k : Nat) (r : Option Nat) : Kd := (kd.1, kd.2.1, fun j => if j = k then r else kd.2.2 j)
section SHP
variable {sh : Shp} {g : Mem} {a b k : Nat} {kd : Kd} {r : Option Nat}
theorem shP_s : (shP sh a kd).1 a = some kd := if_pos rfl
theorem shP_o (h : b ≠ a) : (shP sh a kd).1 b = sh.1 b := if_neg h
theorem shN_s : (shN sh a kd).1 a = some kd := if_pos rfl
theorem shN_o (h : b ≠ a) : (shN sh a kd).1 b = sh.1 b := if_neg h
theorem gN_s {j : Nat} : gN g a a j = 0 := if_pos rfl
theorem gN_o (h : b ≠ a) : gN g a b = g b := funext fun j => if_neg h
theorem kdR_id (h : kd.2.2 k = r) : kdR kd k r = kd := by
  have : (fun j => if j = k then r else kd.2.2 j) = kd.2.2 := funext fun j => by
    by_cases z : j = k
    · subst z; rw [if_pos rfl, h]
    · rw [if_neg z]
  unfold kdR
  rw [this]
theorem shP_id (h : sh.1 a = some kd) : shP sh a kd = sh := by
  have : (fun q => if q = a then some kd else sh.1 q) = sh.1 := funext fun q => by
    by_cases z : q = a
    · subst z; rw [if_pos rfl, h]
    · rw [if_neg z]
  unfold shP
  rw [this]
theorem up2_id {x : Int} (h : g a k = x) : up2 g a k x = g := funext fun b => funext fun j => by
  by_cases z : b = a ∧ j = k
  · obtain ⟨rfl, rfl⟩ := z; rw [up2_s, h]
  · exact if_neg z
end SHP
theorem Rep.putS {w : Wd} {sh : Shp} {g : Mem} {H H1 : Heap} {a k : Nat} {kd : Kd} {r : Option Nat} {x : Int} (hR : Rep w sh g H) (hs : sh.1 a = some kd) (z : H1.size = H.size) (oq : ∀ q : Nat, q ≠ a → H1[q]? = H[q]?)
    (hc : va_at w.1 vwCl (a, c_E w.2.1 (kdR kd k r) (up2 g a k x a)) H1) (hx : k_rng kd k x) : Rep w (shP sh a (kdR kd k r)) (up2 g a k x) H1 := by
  obtain ⟨h1, h2, h3, h4⟩ := hR
  refine ⟨fun b kb hb => ?_, by rw [z]; exact h2, fun q hq => ?_, fun n hn => by rw [z]; exact h4 n hn⟩
  · by_cases e : b = a
    · subst e
      obtain ⟨b1, b2, b3, b4⟩ := h1 b kd hs
      rw [shP_s] at hb
      cases hb
      refine ⟨b1, hc, b3, fun j => ?_⟩
      show k_rng kd j (up2 g b k x b j)
      by_cases ej : j = k
      · subst ej; rw [up2_s]; exact hx
      · rw [up2_k ej]; exact b4 j
    · rw [shP_o e] at hb
      obtain ⟨b1, b2, b3, b4⟩ := h1 b kb hb
      have er : up2 g a k x b = g b := funext fun j => up2_a e
      rw [er]
      exact ⟨b1, b2.kept (oq b e), b3, b4⟩
  · rw [oq q (fun e => by subst e; exact absurd (h1 q kd hs).1 (by omega))]
    exact h3 q hq
theorem Rep.add {w : Wd} {sh : Shp} {g : Mem} {H H1 : Heap} {a : Nat} {kd : Kd} (hR : Rep w sh g H) (hs : sh.2 = some a) (z : H1.size = a + 1) (oq : ∀ q : Nat, q < a → H1[q]? = H[q]?) (hc : va_at w.1 vwCl (a, c_E w.2.1 kd (fun _ => 0)) H1) (hl : kd.2.1 < 2147483648) : Rep w (shN sh a kd) (gN g a) H1 := by
  obtain ⟨h1, h2, h3, h4⟩ := hR
  have ha := h4 a hs
  refine ⟨fun b kb hb => ?_, by omega, fun q hq => ?_, fun n hn => by cases hn; exact z⟩
  · by_cases e : b = a
    · subst e
      rw [shN_s] at hb
      cases hb
      have er : gN g b b = fun _ => 0 := funext fun j => gN_s
      rw [er]
      refine ⟨by omega, hc, hl, fun j => ?_⟩
      show k_rng kd j 0
      unfold k_rng
      split
      · unfold f_rng
        split
        · omega
        · exact Or.inl rfl
        · exact ⟨by omega, by omega⟩
      · split
        · omega
        · split
          · exact ⟨by omega, by omega⟩
          · trivial
    · rw [shN_o e] at hb
      obtain ⟨b1, b2, b3, b4⟩ := h1 b kb hb
      rw [gN_o e]
      have hlt : b < a := by rw [← ha]; exact b2.lt
      exact ⟨b1, b2.kept (oq b hlt), b3, b4⟩
  · rw [oq q (by omega)]
    exact h3 q hq
section JN
variable {w : Wd} {Y : MD} {pc : Nat} {L : List (Nat × Value)} {S : List Value} {sh : Shp} {g : Mem} {kc ks : Nat} {Q : Post}
theorem j_putX (n : Nat) {idx ci k a : Nat} {kd : Kd} {v : Value} {x : Int} (r : Option Nat) (hd : decode (md_c Y) pc = .ok (.putfield idx, 3)) (hn : pc + 3 = n) (hf : FL (md_o Y) idx ci k) (hs : sh.1 a = some kd) (hc : kd.1 = ci) (hfin : (f_T ci k).2.2.2 = false ∨ ((f_T ci k).2.2.2 = true ∧ md_i Y = true ∧ (f_T ci k).1 = md_o Y))
    (hv : f_val (f_ty ci k) x r = v) (hr : narrow (f_ty ci k) v = v) (hfit : fits (f_ty ci k) v = true) (hx : f_rng (f_ty ci k) x)
    (kk : J w Y n L S (shP sh a (kdR kd k r)) (up2 g a k x) kc ks Q) : J w Y pc L (v :: .ref a :: S) sh g kc ks Q := by
  subst hn
  subst hc
  intro p l e s m args below meth c H locs cells slots Z ls C hZ hR hlo hcl hsl hl
  obtain ⟨hci, hk, hw⟩ := hf
  obtain ⟨b1, b2, b3, b4⟩ := hR.1 a kd hs
  rw [c_E_o hci] at b2
  have hts := C.2.2.2.2.1
  have hown := C.2.2.2.1
  have hK := C.2.2.2.2.2.1.1
  have hin := cl_in kd.1 hci
  have hap := va_apart (own := md_o Y) hts hin (f_ty kd.1) (cl_ty kd.1 hci) (cl_nm kd.1 hci) hK (cl_at kd.1 hci)
  obtain ⟨r9, h1, cell, q1, q2, q3, q4⟩ := b2
  have hr' : r9 = (f_C kd.1, f_T kd.1, f_n kd.1) := Option.some.inj (h1.symm.trans (cl_at kd.1 hci))
  subst hr'
  obtain ⟨hS, hfc, kC, hkC, hkind⟩ := hK.1 kd.1 _ (cl_at kd.1 hci)
  obtain ⟨cf, kf, fi, f, hi, hsl2⟩ := hS k hk
  have hlay := hts _ (hin _ (u_in_lay hk))
  unfold u_lay at hlay
  have hst := (u_facts hfc hkC (u_lays hts hin hk) hi).1
  have hkx : k_rng kd k x := by unfold k_rng; rw [if_pos hci]; exact hx
  have hlo2 : ∀ z ∈ locs ++ [(⟨a, f.slot⟩ : Loc)], w.2.2.1 ≤ z.base := by
    intro z hz
    rcases List.mem_append.mp hz with h | h
    · exact hlo z h
    · rw [List.mem_singleton.mp h]
      exact b1
  have hrow : ∀ j, j < f_n kd.1 → updV (vp_V ((List.range (f_n kd.1)).map fun j => f_val (f_ty kd.1 j) (g a j) (kd.2.2 j))) k v j = vp_V ((List.range (f_n kd.1)).map fun j => f_val (f_ty kd.1 j) (up2 g a k x a j) ((kdR kd k r).2.2 j)) j := by
    intro j hj
    show (if j = k then v else vp_V _ j) = vp_V _ j
    have hg : ∀ (r : Nat → Int) (r2 : Nat → Option Nat), vp_V ((List.range (f_n kd.1)).map fun j => f_val (f_ty kd.1 j) (r j) (r2 j)) j = f_val (f_ty kd.1 j) (r j) (r2 j) := by
      intro r r2
      unfold vp_V
      rw [List.getD_eq_getElem?_getD, List.getElem?_map, List.getElem?_range hj]
      rfl
    rw [hg, hg]
    show _ = f_val (f_ty kd.1 j) (up2 g a k x a j) (if j = k then r else kd.2.2 j)
    by_cases ej : j = k
    · subst ej
      rw [if_pos rfl, if_pos rfl, up2_s, hv]
    · rw [if_neg ej, if_neg ej, up2_k ej]
  have fin : ∀ H' : Heap, H'[a]? = some (cell.setSlot (w.1.2 kd.1 k) v) → H'.size = H.size → (∀ q : Nat, q ≠ a → H'[q]? = H[q]?) → Rep w (shP sh a (kdR kd k r)) (up2 g a k x) H' := by
    intro H' e1 e2 e3
    refine hR.putS hs e2 e3 ?_ hkx
    rw [c_E_o (k := kdR kd k r) hci]
    exact ⟨_, cl_at kd.1 hci, t_OB.to (V := updV (vp_V ((List.range (f_n kd.1)).map fun j => f_val (f_ty kd.1 j) (g a j) (kd.2.2 j))) k v) ⟨_, e1, q2, q3, t_set q4 hap hk v⟩ hrow⟩
  rcases hfin with hfin | ⟨hfin, hi9, hdecl⟩
  · rw [if_neg (by rw [hfin]; decide)] at hlay
    have h6 := u_store hfc hkC hkind hlay hi (cl_ty kd.1 hci k hk) hr hfit
    refine W.putK C.1 C.2.1 (f := f) ⟨hown, hts _ hw, ⟨_, _, _, hi⟩, hst⟩ (by rw [q2]; exact h6) q1 q3 (by rw [hsl2]; exact k2_hasslot (q4 k hk)) rfl rfl hd fun H' e1 e2 e3 => ?_
    rw [hsl2] at e1
    exact kk p l e s m args below meth c H' _ cells slots Z ls C hZ (fin H' e1 e2 e3) hlo2 hcl hsl hl
  · rw [if_pos hfin] at hlay
    have hcf : m.cls = cf := by
      obtain ⟨_, _, c', _, _, _, -, -, hf', -, -, -, hown2, -⟩ := Cond.laysFinal_spec hlay
      have e1 : c' = cf := by have := hi.symm.trans hf'; simp at this; exact this.1.symm
      rw [hdecl] at hown2
      rw [← e1]; exact Option.some.inj (hown.symm.trans hown2)
    have h6 := u_fits hfc hkC hkind (Or.inr hlay) hi (cl_ty kd.1 hci k hk) hr hfit
    refine W.putFinK C.1 C.2.1 hown (hts _ hw) hi hst hcf (C.2.2.2.2.2.2.2.2.1 hi9) (by rw [q2]; exact h6) q1 q3 (by rw [hsl2]; exact k2_hasslot (q4 k hk)) rfl rfl hd fun H' e1 e2 e3 => ?_
    rw [hsl2] at e1
    exact kk p l e s m args below meth c H' _ cells slots Z ls C hZ (fin H' e1 e2 e3) hlo2 hcl hsl hl
/-- a reference is written -/
theorem j_putr (n : Nat) {idx ci k a b : Nat} {kd : Kd} (hd : decode (md_c Y) pc = .ok (.putfield idx, 3)) (hn : pc + 3 = n) (hf : FL (md_o Y) idx ci k) (hs : sh.1 a = some kd) (hc : kd.1 = ci) (hfin : (f_T ci k).2.2.2 = false ∨ ((f_T ci k).2.2.2 = true ∧ md_i Y = true ∧ (f_T ci k).1 = md_o Y))
    (ht : (∃ s, f_ty ci k = .object s) ∨ ∃ s, f_ty ci k = .array s) (kk : J w Y n L S (shP sh a (kdR kd k (some b))) g kc ks Q) : J w Y pc L (.ref b :: .ref a :: S) sh g kc ks Q := by
  have kk2 : J w Y n L S (shP sh a (kdR kd k (some b))) (up2 g a k (g a k)) kc ks Q := by rw [up2_id rfl]; exact kk
  have hrg : ∀ H, Rep w sh g H → f_rng (f_ty ci k) (g a k) := fun H hR => by
    obtain ⟨b1, b2, b3, b4⟩ := hR.1 a kd hs
    have h := b4 k
    unfold k_rng at h
    rw [if_pos (by rw [hc]; exact hf.1), hc] at h
    exact h
  intro p l e s m args below meth c H locs cells slots Z ls C hZ hR hlo hcl hsl hl
  have hx := hrg H hR
  rcases ht with ⟨s9, ht⟩ | ⟨s9, ht⟩
  · exact j_putX n (some b) hd hn hf hs hc hfin (by rw [ht]; rfl) (by rw [ht]; rfl) (by rw [ht]; rfl) hx kk2 p l e s m args below meth c H locs cells slots Z ls C hZ hR hlo hcl hsl hl
  · exact j_putX n (some b) hd hn hf hs hc hfin (by rw [ht]; rfl) (by rw [ht]; rfl) (by rw [ht]; rfl) hx kk2 p l e s m args below meth c H locs cells slots Z ls C hZ hR hlo hcl hsl hl
/-- an int is written into a final field -/
theorem j_putF (n : Nat) {idx ci k a : Nat} {kd : Kd} {x : Int} (hd : decode (md_c Y) pc = .ok (.putfield idx, 3)) (hn : pc + 3 = n) (hf : FL (md_o Y) idx ci k) (hs : sh.1 a = some kd) (hc : kd.1 = ci) (hfin : (f_T ci k).2.2.2 = false ∨ ((f_T ci k).2.2.2 = true ∧ md_i Y = true ∧ (f_T ci k).1 = md_o Y)) (ht : f_ty ci k = .int)
    (hx : R32 x) (kk : J w Y n L S sh (up2 g a k x) kc ks Q) : J w Y pc L (.int (i32 x) :: .ref a :: S) sh g kc ks Q :=
  j_putX n (kd.2.2 k) hd hn hf hs hc hfin (by rw [ht]; rfl) (by rw [ht]; rfl) (by rw [ht]; rfl) (by rw [ht]; exact hx) (by rw [kdR_id rfl, shP_id hs]; exact kk)
/-- Object's constructor -/
theorem j_objInit (n : Nat) {idx a : Nat} (hd : decode (md_c Y) pc = .ok (.invokespecial idx, 3)) (hn : pc + 3 = n) (hl : Cond.methodLink (md_o Y) idx Lib.objectInit ∈ lw_good) (hf : 1 ≤ md_f Y) (hlo : (S.map fun v => v.category).sum + 12 ≤ md_l Y)
    (kk : J w Y n L S sh g kc ks Q) : J w Y pc L (.ref a :: S) sh g kc ks Q := by
  subst hn
  intro p l e s m args below meth c H locs cells slots Z ls C hZ hR hl2 hcl hsl hll
  exact W.objInit C.1 C.2.1 C.2.2.2.1 (C.2.2.2.2.1 _ hl) (C.2.2.2.2.1 _ (by decide +kernel)) (C.2.2.2.2.1 _ (by decide +kernel)) rfl (hll.1.trans C.2.2.1.symm) rfl hd hf (by simpa using hlo) (kk p l e s m args below meth c H locs cells slots Z ls C hZ hR hl2 hcl hsl hll)
/-- a new object -/
theorem j_new (n : Nat) {idx ci a : Nat} {kc2 ks2 : Nat} (hd : decode (md_c Y) pc = .ok (.new idx, 3)) (hn : pc + 3 = n) (hci : ci < 10) (hcl : Cond.classLink (md_o Y) idx (f_C ci) ∈ lw_good) (hins : Cond.instantiable (f_C ci) (f_n ci) ∈ lw_good) (hini : Cond.initialized (f_C ci) ∈ lw_good)
    (hdv : ∀ j, j < f_n ci → defaultValue (f_ty ci j) = f_val (f_ty ci j) 0 none) (hsz : sh.2 = some a) (hk : kc2 + 1 ≤ kc ∧ ks2 + f_n ci ≤ ks) (kk : J w Y n L (.ref a :: S) (shN sh a (ci, 0, kN)) (gN g a) kc2 ks2 Q) : J w Y pc L S sh g kc ks Q := by
  subst hn
  intro p l e s m args below meth c H locs cells slots Z ls C hZ hR hlo hc hs hll
  have hts := C.2.2.2.2.1
  have hKn := C.2.2.2.2.2.1.1.1 ci _ (cl_at ci hci)
  have hsa := hR.2.2.2 a hsz
  refine W.newcK C.1 C.2.1 C.2.2.2.1 (hts _ hcl) (hts _ hins) (hts _ hini) rfl hd (show cells + 1 ≤ md_mc Y by omega) (show slots + f_n ci ≤ md_ms Y by omega) hKn.2.1 hsa fun H1 kC hkC e1 z1 o1 => ?_
  refine kk p l e s m args below meth c H1 locs (cells + 1) (slots + f_n ci) Z ls C hZ (hR.add hsz z1 o1 ?_ (show (0 : Nat) < _ by decide)) hlo (by omega) (by omega) hll
  rw [c_E_o (k := (ci, 0, kN)) hci]
  refine ⟨_, cl_at ci hci, (u_born (f_ty ci) hts (cl_in ci hci) hKn hkC e1 (cl_ty ci hci)).to (fun j hj => ?_)⟩
  rw [hdv j hj]
  unfold vp_V
  rw [List.getD_eq_getElem?_getD, List.getElem?_map, List.getElem?_range hj]
  rfl
/-- a new array of int (10), byte (11), long (12) -/
theorem j_newa (n : Nat) {at_ : ArrayType} {a k N : Nat} {x : Int} {kc2 ks2 : Nat} (hd : decode (md_c Y) pc = .ok (.newarray at_, 2)) (hn : pc + 2 = n) (hx : x = (N : Int)) (hN : N < 10000) (harr : Cond.arrayClass (newarray.typeOf at_) ∈ lw_good) (hk9 : (at_ = .int ∧ k = 10) ∨ (at_ = .byte ∧ k = 11))
    (hsz : sh.2 = some a) (hk : kc2 + 1 ≤ kc ∧ ks2 + N ≤ ks) (kk : J w Y n L (.ref a :: S) (shN sh a (k, N, kN)) (gN g a) kc2 ks2 Q) : J w Y pc L (.int (i32 x) :: S) sh g kc ks Q := by
  subst hn
  subst hx
  intro p l e s m args below meth c H locs cells slots Z ls C hZ hR hlo hc hs hll
  have hts := C.2.2.2.2.1
  have hsa := hR.2.2.2 a hsz
  have hcl := nI_clamp (n := N) (by omega)
  have hneg : ¬ i32 (N : Int) < 0 := fun h => by
    have := (i32_lt (x := (N : Int)) (y := 0) (r32 (by omega) (by omega)) (r32 (by decide) (by decide))).mp h
    omega
  have hK2 := C.2.2.2.2.2.1.1.2
  rcases hk9 with ⟨rfl, rfl⟩ | ⟨rfl, rfl⟩
  · refine va_newaK C.1 C.2.1 (hts _ harr) rfl hd rfl hneg hcl (by show N * 4 ≤ _; omega) (show cells + 1 ≤ md_mc Y by omega) (show slots + N ≤ md_ms Y by omega) hsa fun H1 cA e1 z1 o1 hAr hNm => ?_
    have hca : cA = w.2.1 10 := Option.some.inj (hNm.symm.trans (hK2 0 _ rfl).2)
    refine kk p l e s m args below meth c H1 locs (cells + 1) (slots + N) Z ls C hZ (hR.add hsz z1 o1 ?_ (by show N < _; omega)) hlo (by omega) (by omega) hll
    subst hca
    exact e1
  · refine va_newaK C.1 C.2.1 (hts _ harr) rfl hd rfl hneg hcl (by show N * 1 ≤ _; omega) (show cells + 1 ≤ md_mc Y by omega) (show slots + N ≤ md_ms Y by omega) hsa fun H1 cA e1 z1 o1 hAr hNm => ?_
    have hca : cA = w.2.1 11 := Option.some.inj (hNm.symm.trans (hK2 1 _ rfl).2)
    refine kk p l e s m args below meth c H1 locs (cells + 1) (slots + N) Z ls C hZ (hR.add hsz z1 o1 ?_ (by show N < _; omega)) hlo (by omega) (by omega) hll
    subst hca
    exact e1
/-- a new array of references -/
theorem j_newq (n : Nat) {idx a k N : Nat} {C9 : String} {x : Int} {kc2 ks2 : Nat} (hd : decode (md_c Y) pc = .ok (.anewarray idx, 3)) (hn : pc + 3 = n) (hx : x = (N : Int)) (hN : N < 10000) (hl : Cond.classLink (md_o Y) idx C9 ∈ lw_good) (hao : C9 ∈ ao_all) (hk9 : 14 ≤ k ∧ (∀ aC : Nat → ClassId, (t_ys aC)[k - 10]? = some (aC k, .object C9)))
    (hsz : sh.2 = some a) (hk : kc2 + 1 ≤ kc ∧ ks2 + N ≤ ks) (kk : J w Y n L (.ref a :: S) (shN sh a (k, N, kN)) (gN g a) kc2 ks2 Q) : J w Y pc L (.int (i32 x) :: S) sh g kc ks Q := by
  subst hn
  subst hx
  intro p l e s m args below meth c H locs cells slots Z ls C hZ hR hlo hc hs hll
  have hts := C.2.2.2.2.1
  have hsa := hR.2.2.2 a hsz
  have hcl := nI_clamp (n := N) (by omega)
  have hneg : ¬ i32 (N : Int) < 0 := fun h => by
    have := (i32_lt (x := (N : Int)) (y := 0) (r32 (by omega) (by omega)) (r32 (by decide) (by decide))).mp h
    omega
  have hK2 := C.2.2.2.2.2.1.1.2
  have hAO := C.2.2.2.2.2.1.2.2.2.2.2.2.2.2.2.2.2.2.1 C9 hao
  refine W.anew C.1 C.2.1 C.2.2.2.1 (hts _ hl) (va_AO.use hAO) rfl hd rfl hneg (by rw [show (i32 (N : Int)).toNatClampNeg = N from hcl]; omega) (show cells + 1 ≤ md_mc Y by omega) (by rw [show (i32 (N : Int)).toNatClampNeg = N from hcl]; show slots + N ≤ md_ms Y; omega) fun cA kA comp f1 f2 f3 f4 => ?_
  rw [show (i32 (N : Int)).toNatClampNeg = N from hcl]
  generalize hH1 : H.push ({ cls := cA, slots := Array.replicate N .null, vm := .none } : Cell) = H1
  have z1 : H1.size = a + 1 := by rw [← hH1, Array.size_push, hsa]
  have e1 : H1[a]? = some (arrV cA N (fun _ => .null)) := by rw [← hH1, ← hsa, Array.getElem?_push_size, ← arrV_new]
  have o1 : ∀ q : Nat, q < a → H1[q]? = H[q]? := fun q hq => by rw [← hH1, Array.getElem?_push, if_neg (by omega)]
  rw [hsa]
  obtain ⟨_, _, _, _, _, hNm⟩ := (hK2 (k - 10) _ (hk9.2 w.2.1)).2
  have hca : cA = w.2.1 k := Option.some.inj (f1.symm.trans hNm)
  refine kk p l e s m args below meth c H1 locs (cells + 1) (slots + N) Z ls C hZ (hR.add hsz z1 o1 ?_ (by show N < _; omega)) hlo (by omega) (by omega) hll
  subst hca
  rw [c_E_q (k := (k, N, kN)) hk9.1]
  exact e1
/-- a reference is put into an array of its class -/
theorem j_aast (n i : Nat) {a k v ci N : Nat} {f : Nat → Option Nat} {kv : Kd} {x : Int} (hd : decode (md_c Y) pc = .ok (.aastore, 1)) (hn : pc + 1 = n) (hs : sh.1 a = some (k, N, f)) (hk9 : 14 ≤ k ∧ (∀ aC : Nat → ClassId, (t_ys aC)[k - 10]? = some (aC k, .object (f_C ci)))) (hx : x = (i : Int)) (hi : i < N) (hN : N < 10000)
    (hv : sh.1 v = some kv) (hc : kv.1 = ci) (hci : ci < 10) (kk : J w Y n L S (shP sh a (kdR (k, N, f) i (some v))) g kc ks Q) : J w Y pc L (.ref v :: .int (i32 x) :: .ref a :: S) sh g kc ks Q := by
  subst hn
  subst hx
  subst hc
  intro p l e s m args below meth c H locs cells slots Z ls C hZ hR hlo hc hsl hll
  obtain ⟨b1, b2, b3, b4⟩ := hR.1 a _ hs
  obtain ⟨v1, v2, v3, v4⟩ := hR.1 v kv hv
  rw [c_E_q hk9.1] at b2
  rw [c_E_o hci] at v2
  have hclm := nI_clamp (n := i) (by omega)
  obtain ⟨r', hr', cellV, g1, g2, g3, -⟩ := v2
  have hcls := (C.2.2.2.2.2.1.1.1 kv.1 _ (cl_at kv.1 hci)).2
  have hr9 : r' = (f_C kv.1, f_T kv.1, f_n kv.1) := Option.some.inj (hr'.symm.trans (cl_at kv.1 hci))
  subst hr9
  obtain ⟨kA, comp, k1, k2, k3, -⟩ := (C.2.2.2.2.2.1.1.2 (k - 10) _ (hk9.2 w.2.1)).2
  have hcomp : comp = w.1.1 kv.1 := Option.some.inj (k3.symm.trans hcls.1)
  subst hcomp
  obtain ⟨kC, hkC, -⟩ := hcls.2
  refine W.aast C.1 C.2.1 b2 (fun q h => by cases h) (fun h => by cases h) k1 k2 rfl hkC ⟨?_, ?_⟩ g1 (fun q h => by rw [g3] at h; cases h) (by rw [g2]; exact hkC) (by rw [g2]; exact va_assign hcls) rfl rfl hd fun H1 e9 z oq => ?_
  · intro h
    have := (i32_lt (x := (i : Int)) (y := 0) (r32 (by omega) (by omega)) (r32 (by decide) (by decide))).mp h
    omega
  · show _ < (arrV _ _ _).slots.size; rw [arrV_size]; rw [show (i32 (i : Int)).toNatClampNeg = i from hclm]; exact hi
  · have hR1 : Rep w (shP sh a (kdR (k, N, f) i (some v))) (up2 g a i (g a i)) H1 := by
      refine hR.putS hs z oq ?_ (b4 i)
      rw [c_E_q (k := kdR (k, N, f) i (some v)) hk9.1]
      show H1[a]? = some (vp_cell _ _)
      rw [e9, show (i32 (i : Int)).toNatClampNeg = i from hclm, vp_cell_q, vp_cell_q, arrV_store]
      congr 2
      funext q
      show updV _ i (.ref v) q = va_rf (if q = i then some v else f q)
      by_cases hq : q = i
      · subst hq
        simp [updV, va_rf]
      · simp [updV, hq]
    rw [up2_id rfl] at hR1
    refine kk p l e s m args below meth c H1 _ cells slots Z ls C hZ hR1 ?_ hc hsl hll
    intro z hz
    rcases List.mem_append.mp hz with h | h
    · exact hlo z h
    · rw [List.mem_singleton.mp h]
      exact b1
/-- a constructor is called -/
theorem j_callI (n : Nat) {idx np b : Nat} {Yc : MD} {As St : List Value} {Qc : Post} {kc2 ks2 : Nat} (hd : decode (md_c Y) pc = .ok (.invokespecial idx, 3)) (hn : pc + 3 = n) (hm : MI Yc np) (hl : LK (md_o Y) idx Yc) (hret : md_r Yc = none) (hA : As.length = np) (hSt : St = As.reverse ++ .ref b :: S)
    (hrest : (S.map fun v => v.category).sum ≤ 8) (hroom : md_f Yc + 1 ≤ md_f Y ∧ 8 + (md_n Yc + 11) + md_l Yc ≤ md_l Y) (hk : md_mc Yc + kc2 ≤ kc ∧ md_ms Yc + ks2 ≤ ks) (hC : CT w Yc (.ref b :: As) sh g Qc) (kx : ∀ E sh' g', ¬ Qc (.inr E) sh' g')
    (kk : ∀ v sh' g', Qc (.inl v) sh' g' → J w Y n L (v.toList ++ S) sh' g' kc2 ks2 Q) : J w Y pc L St sh g kc ks Q := by
  subst hn
  intro p l e s m args below meth c H locs cells slots Z ls C hZ hR hlo hcl hsl hll
  obtain ⟨⟨m1, m2, m3, m4⟩, m5, m6, m7⟩ := hm
  rw [mdW_nil m5, hret] at m1
  have hM := hC l C.2.2.2.2.2.2.2.2.2.1
  rw [mdW_nil m5, hret] at hM
  have hG : GoodIn lw_good (Cond.code (md_y Yc) (md_c Yc) (md_n Yc) none :: lw_good) := lg_good (fun x hx => by
    rcases List.mem_cons.mp hx with rfl | hx
    · exact m1
    · exact hx)
  have hts := C.2.2.2.2.1
  refine j_back (a9 := (Value.ref b :: As).toArray) (vx_runI (As := As) (rest := S) ⟨C.1, C.2.1, C.2.2.1, C.2.2.2.1, hts⟩ hM ⟨callB_of np hts hG rfl rfl rfl (hts _ m4) (hts _ hl) m2 hroom, m7, hts _ m6⟩ ⟨pc_blind, fun U hU hW => ⟨rfl, WK.warm hW C.2.2.2.2.2.1, by rw [hU]; exact hR⟩⟩ rfl hA hll.1 hSt (lv_room hrest) hd ⟨?_, ?_⟩) kx kk C hZ hlo ?_ ?_ hll
  · show cells + md_mc Yc ≤ md_mc Y; omega
  · show slots + md_ms Yc ≤ md_ms Y; omega
  · omega
  · omega
end JN
