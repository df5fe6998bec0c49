/-! a method's entry and end; calls -/
theorem md_room {Y : MD} : (headSpec (mdW Y :: lw_good) (JR Y)).room = JR Y := rfl
theorem jz_met {w : Wd} {Y : MD} {Q : Post} {p : Program} {l : Launch} {e : Env} {s : State} {m : MethodId} {args : Array Value} {below : List Frame} {meth : Method} {c : Code} (C : JC w Y p l s m args meth c) :
    JZ w Y Q p l e s m args below meth c (vx_MQ below (fun _ _ o t => ∃ (v : Option Value) (sh' : Shp) (g' : Mem), o = .returned v ∧ Q (.inl v) sh' g' ∧ Rep w sh' g' t.heap) (fun E _ t => ∃ (sh' : Shp) (g' : Mem), Q (.inr E) sh' g' ∧ Rep w sh' g' t.heap) args s (md_mc Y) (md_ms Y) (fun q => w.2.2.1 ≤ q)) := by
  have hx := C.1
  have hb := C.2.1
  have hlocks : meth.locks = false := C.2.2.2.2.2.2.2.2.2.2.2.2
  have hr := C.2.2.2.2.2.2.2.2.2.2.2.1
  refine ⟨fun v sh g H locs cells slots pc ls hQ hR hlo hc hs hra => ?_, fun cls sh g H locs cells slots pc ls hQ hR hlo hc hs hth hsz => ?_⟩
  · refine W.widen hc hs (vx_ret ?_)
    have hq : ∀ t : State, t.heap = H → s.WarmedH t.vm → ∃ (v' : Option Value) (sh' : Shp) (g' : Mem), Outcome.returned v = .returned v' ∧ Q (.inl v') sh' g' ∧ Rep w sh' g' t.heap := fun t ht _ => ⟨v, sh, g, rfl, hQ, by rw [ht]; exact hR⟩
    match v, hra with
    | none, h => exact W.vret hx hb (hr.trans h.2) hq hlo h.1
    | some (.int x), h =>
      rcases h.2 with h2 | ⟨ty, h2, h3⟩
      · exact W.iret hx hb (hr.trans h2) hq hlo h.1
      · exact W.zret hx hb (hr.trans h2) h3 hq hlo h.1
    | some (.long x), h => exact W.lret hx hb (hr.trans h.2) hq hlo h.1
    | some (.float x), h => exact W.fret hx hb (hr.trans h.2) hq hlo h.1
    | some .null, h =>
      obtain ⟨h1, n, h2⟩ := h
      exact W.aret hx hb (hr.trans h2) (Or.inl ⟨n, rfl⟩) (Or.inl rfl) hq hlo h1
    | some (.ref a), h =>
      obtain ⟨h1, n, h2⟩ := h
      exact W.aret hx hb (hr.trans h2) (Or.inl ⟨n, rfl⟩) (Or.inr ⟨a, rfl⟩) hq hlo h1
  · obtain ⟨ik, ic, names, t1, t2, t3, t4, t5, t6, d0, d3, d4, d7, th, tf, tl⟩ := hth
    have hts := C.2.2.2.2.1
    have hK := C.2.2.2.2.2.1
    have hs0 := C.2.2.2.2.2.2.1
    have hsz0 := C.2.2.2.2.2.2.2.1
    have htab : c.exceptionTable.toList = [] := by
      have h := C.2.2.2.2.2.2.2.2.2.2.1
      rw [th] at h
      exact h
    have hkeep : ∀ a : Nat, a < w.2.2.2.size → ¬ w.2.2.1 ≤ a → s.heap[a]? = w.2.2.2[a]? := fun a _ h => hs0 a (by omega)
    intro T9 hT9 X9
    have hgrow : s.heap.size ≤ H.size := by
      rw [← hT9]
      exact (vx_frame (U := T9) X9.same).1
    revert X9
    revert hT9
    revert T9
    change W p l e (JR Y) s m args below meth c H locs cells slots _ (F0 m pc ls [])
    refine vx_throw0 (A := fun q => w.2.2.1 ≤ q) (ik := ik) (ic := ic) (own := md_o Y) (cls := cls) (names := names) hx hb C.2.2.2.2.2.2.2.2.2.1 C.2.2.2.1 t1 t2 (hts _ t3) (hts _ t4) (fun x hx9 => ?_) t6 (hK.2.1.kept hkeep) (hK.2.2.1.kept hkeep) ?_ (hsz.trans C.2.2.1.symm) d0 d3 d4 d7 (fun x hx9 => by rw [htab] at hx9; cases hx9) tf (by simpa using tl) hc hs hlocks (fun t _ hsz9 hk => ?_) hlo hc hs
    · rcases t5 x hx9 with h | h
      · exact hts x h
      · have hb9 := (List.mem_filter.mp h).2
        simp only [Bool.and_eq_true] at hb9
        exact va_any hb9.1 (hK.2.2.2.2.1 x h)
    · refine ⟨hgrow, fun q hq hq2 => ?_, hlo⟩
      · rw [hs0 q (by omega)]
        exact hR.2.2.1 q (by omega)
    · refine ⟨(sh.1, none), g, hQ, ?_⟩
      obtain ⟨h1, h2, h3, h4⟩ := hR
      refine ⟨fun a k ha => ?_, Nat.le_trans h2 hsz9, fun q hq => ?_, fun n hn => by cases hn⟩
      · obtain ⟨b1, b2, b3, b4⟩ := h1 a k ha
        exact ⟨b1, b2.kept (hk a b2.lt), b3, b4⟩
      · rw [hk q (by omega)]
        exact h3 q hq
theorem j_entry {w : Wd} {Y : MD} {args : List Value} {sh : Shp} {g : Mem} {Q : Post} (hY : plainName (md_y Y).cls = true) (hnil : md_h Y = []) (hn : (lg_sl args).length ≤ md_n Y) (hi : md_i Y = true → (md_y Y).name = "<init>") (hown : (md_y Y).cls = md_o Y)
    (k : J w Y 0 (lv_args 0 args) [] sh g (md_mc Y) (md_ms Y) Q) : CT w Y args sh g Q := by
  intro l hl
  have hW : mdW Y = Cond.code (md_y Y) (md_c Y) (md_n Y) (md_r Y) := by unfold mdW; rw [hnil]
  refine vx_ofW (cc := md_c Y) (maxL := md_n Y) (ret := md_r Y) (ws' := lw_good) hY (by rw [hW]) ?_
  intro p e s m a below meth c s₁ B hml hx hP
  obtain ⟨rfl, hWK, hR⟩ := hP
  have hts := atoms_spec (ws := mdW Y :: lw_good) B.pre
  have C : JC w Y p l s m args.toArray meth c := by
    refine ⟨B.exec, B.bytes, hml, ?_, fun x hx => hts x (List.mem_cons_of_mem _ hx), hWK, hR.2.2.1, hR.2.1, fun h => ?_, hl, ?_, B.returns, B.notSynchronized⟩
    · rw [← hown]; exact findClass_of_methodNamed B.named
    · rw [(name_of_methodNamed B.named B.method).1]; exact hi h
    · rw [hnil]
      cases h : c.exceptionTable.toList with
      | nil => rfl
      | cons y r => exact (hx y (by rw [h]; exact List.mem_cons_self)).elim
  have hls := lv_entry args (n := md_n Y) hn
  rw [lg_entry_eq]
  exact k p l e s m args.toArray below meth c s.heap [] 0 0 _ _ C (jz_met C) hR (fun z hz => by cases hz) (by omega) (by omega) hls
def MV (Y : MD) (np : Nat) : Prop := MK Y np ∧ md_h Y = [] ∧ Cond.instanceMethod (md_y Y) ∈ lw_good ∧ Cond.selects (md_y Y).cls (md_y Y) (md_y Y) ∈ lw_good
def MS (Y : MD) (np : Nat) : Prop := MK Y np ∧ md_h Y = [] ∧ Cond.static (md_y Y) ∈ lw_good
def MI (Y : MD) (np : Nat) : Prop := MK Y np ∧ md_h Y = [] ∧ Cond.instanceMethod (md_y Y) ∈ lw_good ∧ (md_y Y).name = "<init>"
/-- a post that knows all -/
def dQ (v : Option Value) (sh : Shp) (g : Mem) : Post := fun r sh' g' => r = .inl v ∧ sh' = sh ∧ g' = g
/-- an int, and what it and the memory fulfil -/
def iQ (sh : Shp) (P : Int → Mem → Prop) : Post := fun r sh' g' => ∃ z, r = .inl (some (.int (i32 z))) ∧ sh' = sh ∧ P z g'
def vQ (sh : Shp) (P : Mem → Prop) : Post := fun r sh' g' => r = .inl none ∧ sh' = sh ∧ P g'
/-- a reference or null -/
def rQ (sh : Shp) (P : Option Nat → Mem → Prop) : Post := fun r sh' g' => ∃ a, r = .inl (some (va_rf a)) ∧ sh' = sh ∧ P a g'
theorem x_d {v : Option Value} {sh : Shp} {g : Mem} : ∀ E sh' g', ¬ dQ v sh g (.inr E) sh' g' := fun _ _ _ h => by cases h.1
theorem x_i {sh : Shp} {P : Int → Mem → Prop} : ∀ E sh' g', ¬ iQ sh P (.inr E) sh' g' := fun _ _ _ h => by obtain ⟨z, h, -⟩ := h; cases h
theorem x_v {sh : Shp} {P : Mem → Prop} : ∀ E sh' g', ¬ vQ sh P (.inr E) sh' g' := fun _ _ _ h => by cases h.1
theorem x_r {sh : Shp} {P : Option Nat → Mem → Prop} : ∀ E sh' g', ¬ rQ sh P (.inr E) sh' g' := fun _ _ _ h => by obtain ⟨z, h, -⟩ := h; cases h
section JK
variable {w : Wd} {Y : MD} {pc : Nat} {L : List (Nat × Value)} {S : List Value} {sh : Shp} {g : Mem} {kc ks : Nat} {Q : Post}
theorem k_d1 {v : Value} {sh1 : Shp} {g1 : Mem} (k : J w Y pc L (v :: S) sh1 g1 kc ks Q) : ∀ v' sh' g', dQ (some v) sh1 g1 (.inl v') sh' g' → J w Y pc L (v'.toList ++ S) sh' g' kc ks Q := by
  intro v' sh' g' h
  obtain ⟨h1, rfl, rfl⟩ := h
  cases h1
  exact k
theorem k_d0 {sh1 : Shp} {g1 : Mem} (k : J w Y pc L S sh1 g1 kc ks Q) : ∀ v' sh' g', dQ none sh1 g1 (.inl v') sh' g' → J w Y pc L (v'.toList ++ S) sh' g' kc ks Q := by
  intro v' sh' g' h
  obtain ⟨h1, rfl, rfl⟩ := h
  cases h1
  exact k
theorem k_i {sh1 : Shp} {P : Int → Mem → Prop} (k : ∀ z g1, P z g1 → J w Y pc L (.int (i32 z) :: S) sh1 g1 kc ks Q) : ∀ v' sh' g', iQ sh1 P (.inl v') sh' g' → J w Y pc L (v'.toList ++ S) sh' g' kc ks Q := by
  intro v' sh' g' h
  obtain ⟨z, h1, rfl, h2⟩ := h
  cases h1
  exact k z g' h2
theorem k_v {sh1 : Shp} {P : Mem → Prop} (k : ∀ g1, P g1 → J w Y pc L S sh1 g1 kc ks Q) : ∀ v' sh' g', vQ sh1 P (.inl v') sh' g' → J w Y pc L (v'.toList ++ S) sh' g' kc ks Q := by
  intro v' sh' g' h
  obtain ⟨h1, rfl, h2⟩ := h
  cases h1
  exact k g' h2
theorem k_r {sh1 : Shp} {P : Option Nat → Mem → Prop} (k0 : ∀ g1, P none g1 → J w Y pc L (.null :: S) sh1 g1 kc ks Q) (k1 : ∀ a g1, P (some a) g1 → J w Y pc L (.ref a :: S) sh1 g1 kc ks Q) : ∀ v' sh' g', rQ sh1 P (.inl v') sh' g' → J w Y pc L (v'.toList ++ S) sh' g' kc ks Q := by
  intro v' sh' g' h
  obtain ⟨z, h1, rfl, h2⟩ := h
  cases h1
  cases z with
  | none => exact k0 g' h2
  | some a => exact k1 a g' h2
theorem j_back {p : Program} {l : Launch} {e : Env} {s : State} {m : MethodId} {args a9 : Array Value} {below : List Frame} {meth : Method} {c : Code} {H : Heap} {locs : List Loc} {cells slots mc ms kc2 ks2 : Nat} {Z : State → Prop} {ls : Array Slot} {St : List Value} {Qc : Post}
    (hr : vx_Run p l e (JR Y) s m args below meth c H locs cells slots mc ms (F0 m pc ls St) S ((fun (_ : Array Value) (_ : State) (o : Outcome) (t : State) => ∃ (v : Option Value) (sh' : Shp) (g' : Mem), o = .returned v ∧ Qc (.inl v) sh' g' ∧ Rep w sh' g' t.heap) a9) (fun E _ t => ∃ (sh' : Shp) (g' : Mem), Qc (.inr E) sh' g' ∧ Rep w sh' g' t.heap) (fun q => w.2.2.1 ≤ q))
    (kx : ∀ E sh' g', ¬ Qc (.inr E) sh' g') (kk : ∀ v sh' g', Qc (.inl v) sh' g' → J w Y (pc + 3) L (v.toList ++ S) sh' g' kc2 ks2 Q)
    (C : JC w Y p l s m args meth c) (hZ : JZ w Y Q p l e s m args below meth c Z) (hlo : ∀ z ∈ locs, w.2.2.1 ≤ z.base) (hc : cells + (mc + kc2) ≤ md_mc Y) (hs : slots + (ms + ks2) ≤ md_ms Y) (hl : lv_has ls (md_n Y) L) :
    W p l e (JR Y) s m args below meth c H locs cells slots Z (F0 m pc ls St) := by
  intro T hT X
  rcases hr T hT X with ⟨v, st₀, t, T', L9, h0, X', hL, e1, e2, ⟨v', sh', g', hv, hQ, hR'⟩, st⟩ | ⟨q, st₀, t, T', L9, E, ce, h0, X', hL, e1, e2, ⟨sh', g', hQ, hR'⟩, hce⟩
  · cases hv
    obtain ⟨t2, a1, b1⟩ := kk v sh' g' hQ p l e s m args below meth c T'.heap (locs ++ L9) (cells + mc) (slots + ms) Z ls C hZ (by rw [e1]; exact hR') (fun z hz => by
      rcases List.mem_append.mp hz with h | h
      · exact hlo z h
      · exact hL z h) (by omega) (by omega) hl T' rfl X'
    exact ⟨t2, st t2 a1, b1⟩
  · exact absurd hQ (kx E sh' g')
theorem pc_blind {args : List Value} : FrameBlind (fun (v : Array Value) (U : State) => v = args.toArray ∧ WK w U ∧ Rep w sh g U.heap) := by
  intro a U g9 mk h
  exact ⟨h.1, WK.warm (u := U) (State.WarmedH.refl U) h.2.1, h.2.2⟩
theorem mdW_nil {Y : MD} (h : md_h Y = []) : mdW Y = Cond.code (md_y Y) (md_c Y) (md_n Y) (md_r Y) := by unfold mdW; rw [h]
theorem j_callV (n : Nat) {idx np b ci : Nat} {Yc : MD} {kd : Kd} {As St : List Value} {Qc : Post} {kc2 ks2 : Nat} (hd : decode (md_c Y) pc = .ok (.invokevirtual idx, 3)) (hn : pc + 3 = n) (hm : MV Yc np) (hl : LK (md_o Y) idx Yc) (hs : sh.1 b = some kd) (hc : kd.1 = ci) (hci : ci < 10 ∧ f_C ci = (md_y Yc).cls) (hA : As.length = np) (hSt : St = As.reverse ++ .ref b :: S)
    (hrest : (S.map fun v => v.category).sum ≤ 8) (hroom : md_f Yc + 1 ≤ md_f Y ∧ 8 + (md_n Yc + 11) + md_l Yc ≤ md_l Y) (hk : md_mc Yc + kc2 ≤ kc ∧ md_ms Yc + ks2 ≤ ks) (hC : CT w Yc (.ref b :: As) sh g Qc) (kx : ∀ E sh' g', ¬ Qc (.inr E) sh' g')
    (kk : ∀ v sh' g', Qc (.inl v) sh' g' → J w Y n L (v.toList ++ S) sh' g' kc2 ks2 Q) : J w Y pc L St sh g kc ks Q := by
  subst hn
  subst hc
  intro p l e s m args below meth c H locs cells slots Z ls C hZ hR hlo hcl hsl hll
  obtain ⟨⟨m1, m2, m3, m4⟩, m5, m6, m7⟩ := hm
  obtain ⟨b1, b2, b3, b4⟩ := hR.1 b kd hs
  rw [c_E_o hci.1] at b2
  have hrec := va_recv C.2.2.2.2.2.1.1 (va_P1 b2) (q0 := 0) (cl_at kd.1 hci.1) rfl
  rw [mdW_nil m5] at m1
  have hM := hC l C.2.2.2.2.2.2.2.2.2.1
  rw [mdW_nil m5] at hM
  have hG : GoodIn lw_good (wsV (md_o Y) idx (md_y Yc).cls (md_y Yc) (Cond.code (md_y Yc) (md_c Yc) (md_n Yc) (md_r Yc) :: lw_good)) := lg_good (fun x hx => by
    simp only [wsV, List.cons_append, List.nil_append, List.mem_cons] at hx
    rcases hx with rfl | rfl | rfl | rfl | rfl | hx
    · exact hl
    · exact m6
    · exact m7
    · exact m4
    · exact m1
    · exact hx)
  refine j_back (a9 := (Value.ref b :: As).toArray) (vx_runV (As := As) (rest := S) (C := (md_y Yc).cls) ⟨C.1, C.2.1, C.2.2.1, C.2.2.2.1, C.2.2.2.2.1⟩ hM (cwV np C.2.2.2.2.1 hG rfl rfl rfl ⟨rfl, m2⟩ hroom) ⟨pc_blind, by rw [← hci.2]; exact hrec, fun U hU hW => ⟨rfl, WK.warm hW C.2.2.2.2.2.1, by rw [hU]; exact hR⟩⟩ rfl hA hll.1 hSt (lv_room hrest) hd ⟨?_, ?_⟩) kx kk C hZ hlo ?_ ?_ hll
  · show cells + md_mc Yc ≤ md_mc Y; omega
  · show slots + md_ms Yc ≤ md_ms Y; omega
  · omega
  · omega
theorem j_callS (n : Nat) {idx np : Nat} {Yc : MD} {As St : List Value} {Qc : Post} {kc2 ks2 : Nat} (hd : decode (md_c Y) pc = .ok (.invokestatic idx, 3)) (hn : pc + 3 = n) (hm : MS Yc np) (hl : LK (md_o Y) idx Yc) (hA : As.length = np) (hSt : St = As.reverse ++ S)
    (hrest : (S.map fun v => v.category).sum ≤ 8) (hroom : md_f Yc + 1 ≤ md_f Y ∧ 8 + (md_n Yc + 11) + md_l Yc ≤ md_l Y) (hk : md_mc Yc + kc2 ≤ kc ∧ md_ms Yc + ks2 ≤ ks) (hC : CT w Yc As sh g Qc) (kx : ∀ E sh' g', ¬ Qc (.inr E) sh' g')
    (kk : ∀ v sh' g', Qc (.inl v) sh' g' → J w Y n L (v.toList ++ S) sh' g' kc2 ks2 Q) : J w Y pc L St sh g kc ks Q := by
  subst hn
  intro p l e s m args below meth c H locs cells slots Z ls C hZ hR hlo hcl hsl hll
  obtain ⟨⟨m1, m2, m3, m4⟩, m5, m6⟩ := hm
  rw [mdW_nil m5] at m1
  have hM := hC l C.2.2.2.2.2.2.2.2.2.1
  rw [mdW_nil m5] at hM
  have hG : GoodIn lw_good (Cond.code (md_y Yc) (md_c Yc) (md_n Yc) (md_r Yc) :: lw_good) := lg_good (fun x hx => by
    rcases List.mem_cons.mp hx with rfl | hx
    · exact m1
    · exact hx)
  have hts := C.2.2.2.2.1
  refine j_back (a9 := As.toArray) (vx_runS (As := As) (rest := S) ⟨C.1, C.2.1, C.2.2.1, C.2.2.2.1, hts⟩ hM ⟨callB_of np hts hG rfl rfl rfl (hts _ m4) (hts _ hl) m2 hroom, hts _ m6⟩ ⟨pc_blind, fun U hU hW => ⟨rfl, WK.warm hW C.2.2.2.2.2.1, by rw [hU]; exact hR⟩⟩ rfl hA hll.1 hSt (lv_room hrest) hd ⟨?_, ?_⟩) kx kk C hZ hlo ?_ ?_ hll
  · show cells + md_mc Yc ≤ md_mc Y; omega
  · show slots + md_ms Yc ≤ md_ms Y; omega
  · omega
  · omega
end JK
