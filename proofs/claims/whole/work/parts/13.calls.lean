/-! a method's entry and end; calls -/
theorem md_room {Y : MD} : (headSpec (mdW Y :: lw_good) (JR Y)).room = JR Y := rfl
theorem jz_met {w : Wd} {Y : MD} {Q : Post} {p : Program} {l : Launch} {e : Env} {s : State} {m : MethodId} {args : Array Value} {below : List Frame} {meth : Method} {c : Code} (C : JC w Y p l s m args meth c) :
    JZ w Y Q p l e s m args below meth c (vx_MQ below (fun _ _ o t => ∃ (v : Option Value) (sh' : Shp) (g' : Mem), o = .returned v ∧ Q (.inl v) sh' g' ∧ Rep w sh' g' t.heap) (fun E _ t => ∃ (sh' : Shp) (g' : Mem), Q (.inr E) sh' g' ∧ Rep w sh' g' t.heap) args s (md_mc Y) (md_ms Y) (fun q => w.2.2.1 ≤ q)) := by
  have hx := C.1
  have hb := C.2.1
  have hlocks : meth.locks = false := C.2.2.2.2.2.2.2.2.2.2.2.2
  have hr := C.2.2.2.2.2.2.2.2.2.2.2.1
  refine ⟨fun v sh g H locs cells slots pc ls hQ hR hlo hc hs hra => ?_, fun cls sh g H locs cells slots pc ls hQ hR hlo hc hs hth hsz => ?_⟩
  · refine W.widen hc hs (vx_ret ?_)
    have hq : ∀ t : State, t.heap = H → s.WarmedH t.vm → ∃ (v' : Option Value) (sh' : Shp) (g' : Mem), Outcome.returned v = .returned v' ∧ Q (.inl v') sh' g' ∧ Rep w sh' g' t.heap := fun t ht _ => ⟨v, sh, g, rfl, hQ, by rw [ht]; exact hR⟩
    match v, hra with
    | none, h => exact W.vret hx hb (hr.trans h.2) hq hlo h.1
    | some (.int x), h =>
      rcases h.2 with h2 | ⟨h2, h3⟩
      · exact W.iret hx hb (hr.trans h2) hq hlo h.1
      · exact W.zret hx hb (hr.trans h2) h3 hq hlo h.1
    | some (.long x), h => exact W.lret hx hb (hr.trans h.2) hq hlo h.1
    | some (.float x), h => exact W.fret hx hb (hr.trans h.2) hq hlo h.1
    | some .null, h =>
      obtain ⟨h1, n, h2⟩ := h
      exact W.aret hx hb (hr.trans h2) (Or.inl ⟨n, rfl⟩) (Or.inl rfl) hq hlo h1
    | some (.ref a), h =>
      obtain ⟨h1, n, h2⟩ := h
      exact W.aret hx hb (hr.trans h2) (Or.inl ⟨n, rfl⟩) (Or.inr ⟨a, rfl⟩) hq hlo h1
  · obtain ⟨ik, ic, names, t1, t2, t3, t4, t5, t6, d0, d3, d4, d7, th, tf, tl⟩ := hth
    have hts := C.2.2.2.2.1
    have hK := C.2.2.2.2.2.1
    have hs0 := C.2.2.2.2.2.2.1
    have hsz0 := C.2.2.2.2.2.2.2.1
    have htab : c.exceptionTable.toList = [] := by
      have h := C.2.2.2.2.2.2.2.2.2.2.1
      rw [th] at h
      exact h
    have hkeep : ∀ a : Nat, a < w.2.2.2.size → ¬ w.2.2.1 ≤ a → s.heap[a]? = w.2.2.2[a]? := fun a _ h => hs0 a (by omega)
    refine vx_throw0 (A := fun q => w.2.2.1 ≤ q) (ik := ik) (ic := ic) (own := md_o Y) (cls := cls) (names := names) hx hb C.2.2.2.2.2.2.2.2.2.1 C.2.2.2.1 t1 t2 (hts _ t3) (hts _ t4) (fun x hx9 => ?_) t6 (hK.2.1.kept hkeep) (hK.2.2.1.kept hkeep) ?_ (hsz.trans C.2.2.1.symm) d0 d3 d4 d7 (fun x hx9 => by rw [htab] at hx9; cases hx9) tf (by simpa using tl) hc hs hlocks (fun t _ hsz9 hk => ?_) hlo hc hs
    · rcases t5 x hx9 with h | h
      · exact hts x h
      · have hb9 := (List.mem_filter.mp h).2
        simp only [Bool.and_eq_true] at hb9
        exact va_any hb9.1 (hK.2.2.2.2.1 x h)
    · refine ⟨?_, fun q hq hq2 => ?_, hlo⟩
      · sorry
      · rw [hs0 q (by omega)]
        exact hR.2.2.1 q (by omega)
    · refine ⟨(sh.1, none), g, hQ, ?_⟩
      obtain ⟨h1, h2, h3, h4⟩ := hR
      refine ⟨fun a k ha => ?_, Nat.le_trans h2 hsz9, fun q hq => ?_, fun n hn => by cases hn⟩
      · obtain ⟨b1, b2, b3, b4⟩ := h1 a k ha
        exact ⟨b1, b2.kept (hk a b2.lt), b3, b4⟩
      · rw [hk q (by omega)]
        exact h3 q hq
theorem j_entry {w : Wd} {Y : MD} {args : List Value} {sh : Shp} {g : Mem} {Q : Post} (hY : plainName (md_y Y).cls = true) (hnil : md_h Y = []) (hn : (lg_sl args).length ≤ md_n Y) (hi : md_i Y = true → (md_y Y).name = "<init>") (hown : (md_y Y).cls = md_o Y)
    (k : J w Y 0 (lv_args 0 args) [] sh g (md_mc Y) (md_ms Y) Q) : CT w Y args sh g Q := by
  intro l hl
  have hW : mdW Y = Cond.code (md_y Y) (md_c Y) (md_n Y) (md_r Y) := by unfold mdW; rw [hnil]
  refine vx_ofW (cc := md_c Y) (maxL := md_n Y) (ret := md_r Y) (ws' := lw_good) hY (by rw [hW]) ?_
  intro p e s m a below meth c s₁ B hml hx hP
  obtain ⟨rfl, hWK, hR⟩ := hP
  have hts := atoms_spec (ws := mdW Y :: lw_good) B.pre
  have C : JC w Y p l s m args.toArray meth c := by
    refine ⟨B.exec, B.bytes, hml, ?_, fun x hx => hts x (List.mem_cons_of_mem _ hx), hWK, hR.2.2.1, hR.2.1, fun h => ?_, hl, ?_, B.returns, B.notSynchronized⟩
    · rw [← hown]; exact findClass_of_methodNamed B.named
    · rw [(name_of_methodNamed B.named B.method).1]; exact hi h
    · rw [hnil]
      cases h : c.exceptionTable.toList with
      | nil => rfl
      | cons y r => exact (hx y (by rw [h]; exact List.mem_cons_self)).elim
  have hls := lv_entry args (n := md_n Y) hn
  rw [lg_entry_eq]
  exact k p l e s m args.toArray below meth c s.heap [] 0 0 _ _ C (jz_met C) hR (fun z hz => by cases hz) (by omega) (by omega) hls
