/-! the reader of the class: group, call, rules -/
section
variable {p : Program} {l : Launch} {e : Env} {R : Room} {s : State} {m : MethodId} {args : Array Value} {below : List Frame} {meth : Method} {c : Code} {H : Heap} {locs : List Loc} {cells slots : Nat} {Q : State → Prop} {T : State}
theorem vx_callSN (X : Stand p l e R s m args below meth c T locs cells slots) (hexec : p.tables.exec = Jvm.exec) {own : String} {index : Nat} {host : String} {y : MethodName} {bytes : ByteArray} {maxL : Nat} {ret : Option FieldType}
    (hown : s.vm.findClass own = some m.cls) (hlink : (Cond.methodLinkNest own index y host).before args s = true) (hstat : (Cond.static y).before args s = true) (hinit : (Cond.initialized y.cls).before args s = true)
    (hcode : (Cond.code y bytes maxL ret).before args s = true) (hy : y.cls ≠ "java/lang/invoke/MethodHandle" ∧ y.cls ≠ "java/lang/invoke/VarHandle")
    {W : Nat} {Pre : Pt → Array Value → Prop} {Post : Pt → Array Value → Option Value → Pt → Prop} {PostX : Pt → Array Value → Addr → Pt → Prop} (hK : vx_Back l R p e below s args y 3 W Pre Post PostX)
    {g : JFrame} (hg : g.method = m) (hsize : g.locals.size = c.maxLocals) {argsL rest : List Value} (hlen : ∀ sig, parseMethodDescriptor y.desc = some sig → argsL.length = sig.parameters.length)
    (hstack : g.stack = argsL.reverse ++ rest) (hW : 2 * g.monitorRoom + (rest.map fun v => v.category).sum ≤ W) (hdg : decode c.code g.pc = .ok (.invokestatic index, 3))
    (hpre : ∀ vm₁, s.WarmedH vm₁ → Pre ⟨T.setVm vm₁, locs, cells, slots⟩ argsL.toArray) :
    (∃ (v : Option Value) (vm₁ : Vm) (B : Pt), s.WarmedH vm₁ ∧ Stand p l e R s m args below meth c B.U B.locs B.cells B.slots ∧ Post ⟨T.setVm vm₁, locs, cells, slots⟩ argsL.toArray v B ∧
      ∀ target, Steps p.tables e below (B.U.setTop { g with pc := g.pc + 3, stack := v.toList ++ rest }) target → Steps p.tables e below (T.setTop g) target) ∨
    (∃ (q : Addr) (vm₁ : Vm) (B : Pt), s.WarmedH vm₁ ∧ Stand p l e R s m args below meth c B.U B.locs B.cells B.slots ∧ PostX ⟨T.setVm vm₁, locs, cells, slots⟩ argsL.toArray q B ∧
      Steps p.tables e below (T.setTop g) ((B.U.setTop { g with stack := rest }).pushFrame (.throwing q))) := by
  obtain ⟨mk, hnamed⟩ := Cond.code_named hcode
  obtain ⟨methM, cM, hmethM, -, -, -, -, -, -, hsigM⟩ := Cond.code_spec hnamed hcode
  have hstatic : methM.isStatic = true := Cond.static_spec hnamed hmethM hstat
  obtain ⟨kP, hkP, -⟩ := className_of_methodNamed hnamed
  have hinitP : kP.init = .initialized := Cond.initialized_spec (findClass_of_methodNamed hnamed) hkP hinit
  obtain ⟨vm₁, X₁, hstep₁⟩ := X.invokestaticNest hexec hown hlink hnamed hmethM hstatic hkP hinitP hy (g := g) hg (argsL := argsL) (rest := rest) (hlen _ hsigM) hstack hdg
  rcases hK m meth c ⟨T.setVm vm₁, locs, cells, slots⟩ { g with stack := rest } (.invokestatic index) mk argsL.toArray X₁ hg hsize hdg hW (X₁.named hnamed) (hpre vm₁ X₁.warmed) with ⟨v, B, X', hpost, hsteps⟩ | ⟨q, B, X', hpost, hsteps⟩
  · exact Or.inl ⟨v, vm₁, B, X₁.warmed, X', hpost, fun target h => hstep₁ _ fun acts => by rw [doInvoke_state]; exact hsteps.trans h⟩
  · exact Or.inr ⟨q, vm₁, B, X₁.warmed, X', hpost, hstep₁ _ fun acts => by rw [doInvoke_state]; exact hsteps⟩
theorem vx_runSN {y : MethodName} {bytes cc : ByteArray} {maxL nL mc ms n index : Nat} {ret : Option FieldType} {ws : List Cond} {rm : Room} {Pc : Array Value → State → Prop} {Qc : Array Value → State → Outcome → State → Prop} {XC : String → State → State → Prop} {free : Addr → Prop} {Ts : List Cond} {own host : String} {As rest : List Value} {g : JFrame}
    (S : CallFix p m c cc nL s args Ts own) (hM : vx_Met l y ws rm Pc Qc XC mc ms free) (cw : va_CN R s args own index y host bytes maxL ret ws rm mc ms n ∧ (Cond.static y).before args s = true ∧ True) (hp : PreS s H Pc As)
    (hg : g.method = m) (hn : As.length = n) (hsize : g.locals.size = nL) (hstack : g.stack = As.reverse ++ rest) (hW : 2 * g.monitorRoom + (rest.map fun v => v.category).sum ≤ 8) (hdg : decode cc g.pc = .ok (.invokestatic index, 3)) (hf : cells + mc ≤ R.cells ∧ slots + ms ≤ R.slots) :
    vx_Run p l e R s m args below meth c H locs cells slots mc ms g rest (Qc As.toArray) XC free := by
  obtain ⟨⟨⟨hrc, hrs, hfr, hlo, hws, hcw⟩, hcode, hini, hy, hlen, hl⟩, hx1, hx2⟩ := cw
  have hK : vx_Back l R p e below s args y 3 8 (PreOf R mc ms Pc) (PostOf Qc mc ms free) (vx_Post XC mc ms free) := vx_back (bytes := bytes) (maxL := maxL) (ret := ret) hM hp.1 hrc hrs hfr hlo hws hcw (fun a' U hW => word_at hW (Or.inl (by first | rfl | simp [Cond.onTables, Cond.keeps, Cond.steady])) hini)
  obtain ⟨hx, hb, hml, ho, -⟩ := S
  have hPc := hp.2
  intro T hT X
  rcases vx_callSN X hx (bytes := bytes) (maxL := maxL) (ret := ret) ho hl hx1 hini hcode hy hK hg (hsize.trans hml.symm) (argsL := As) (rest := rest) (fun sig h => hn.trans (hlen sig h)) hstack hW (by rw [hb]; exact hdg)
    (fun vm₁ hW₁ => ⟨hf.1, hf.2, hPc (T.setVm vm₁) hT hW₁⟩) with ⟨v, vm₁, ⟨U', l2, c2, s2⟩, hW₁, X', ⟨g', mk, t, L, e1, e2, hq, h1, hL, h2, h3⟩, st⟩ | ⟨q, vm₁, ⟨U', l2, c2, s2⟩, hW₁, X', ⟨g', mk, t, L, E, ce, e1, e2, hq, hce, hcv, hcl, h1, hL, h2, h3⟩, st⟩
  · dsimp only [Pt.U, Pt.locs, Pt.cells, Pt.slots] at X' e1 e2 h1 h2 h3 st
    subst h1; subst h2; subst h3
    exact Or.inl ⟨v, (T.setVm vm₁).calling g' mk As.toArray, t, U', L, hT, X', hL, e1, e2, hq, st⟩
  · dsimp only [Pt.U, Pt.locs, Pt.cells, Pt.slots] at X' e1 e2 h1 h2 h3 st hcl
    subst h1; subst h2; subst h3
    exact Or.inr ⟨q, (T.setVm vm₁).calling g' mk As.toArray, t, U', L, E, ce, hT, X', hL, e1, e2, hq, hce, hcv, vx_cls hW₁ hcl, st⟩
end

theorem j_callSN {w : Wd} {Y : MD} {pc : Nat} {L : List (Nat × Value)} {S : List Value} {sh : Shp} {g : Mem} {kc ks : Nat} {Q : Post} (n : Nat) {idx np : Nat} {host : String} {Yc : MD} {As St : List Value} {Qc : Post} {kc2 ks2 : Nat} (hd : decode (md_c Y) pc = .ok (.invokestatic idx, 3)) (hn : pc + 3 = n) (hm : MS Yc np) (hl : (md_o Y, idx, md_y Yc, host) = (RX8, 180, yX9_mostOf, RX9)) (hA : As.length = np) (hSt : St = As.reverse ++ S)
    (hrest : (S.map fun v => v.category).sum ≤ 8) (hroom : md_f Yc + 1 ≤ md_f Y ∧ 8 + (md_n Yc + 11) + md_l Yc ≤ md_l Y) (hk : md_mc Yc + kc2 ≤ kc ∧ md_ms Yc + ks2 ≤ ks) (hC : CT w Yc As sh g Qc) (kx : ∀ E sh' g', ¬ Qc (.inr E) sh' g')
    (kk : ∀ v sh' g', Qc (.inl v) sh' g' → J w Y n L (v.toList ++ S) sh' g' kc2 ks2 Q) : J w Y pc L St sh g kc ks Q := by
  subst hn
  intro p l e s m args below meth c H locs cells slots Z ls C hZ hR hlo hcl hsl hll
  obtain ⟨⟨m1, m2, m3, m4⟩, m5, m6⟩ := hm
  rw [mdW_nil m5] at m1
  have hM := hC l C.2.2.2.2.2.2.2.2.2.1
  rw [mdW_nil m5] at hM
  have hG : GoodIn lw_good (Cond.code (md_y Yc) (md_c Yc) (md_n Yc) (md_r Yc) :: lw_good) := lg_good (fun x hx => by
    rcases List.mem_cons.mp hx with rfl | hx
    · exact m1
    · exact hx)
  have hts := C.2.2.2.2.1
  have hN : va_Nw (.methodLinkNest (md_o Y) idx (md_y Yc) host) s := by
    have h := C.2.2.2.2.2.1.2.2.2.2.2.2.2.2.2.2.2.2.2.2
    have e1 : md_o Y = RX8 := congrArg (fun q => q.1) hl
    have e2 : idx = 180 := congrArg (fun q => q.2.1) hl
    have e3 : md_y Yc = yX9_mostOf := congrArg (fun q => q.2.2.1) hl
    have e4 : host = RX9 := congrArg (fun q => q.2.2.2) hl
    rw [e1, e2, e3, e4]
    exact h
  refine j_back (a9 := As.toArray) (vx_runSN (As := As) (rest := S) ⟨C.1, C.2.1, C.2.2.1, C.2.2.2.1, hts⟩ hM ⟨va_cnB np hts hG rfl rfl rfl hN (hts _ m4) m2 hroom, hts _ m6, trivial⟩ ⟨pc_blind, fun U hU hW => ⟨rfl, WK.warm hW C.2.2.2.2.2.1, by rw [hU]; exact hR⟩⟩ rfl hA hll.1 hSt (lv_room hrest) hd ⟨?_, ?_⟩) kx kk C hZ hlo ?_ ?_ hll
  · show cells + md_mc Yc ≤ md_mc Y; omega
  · show slots + md_ms Yc ≤ md_ms Y; omega
  · omega
  · omega
theorem s_lineOf_r {d : Nat → Int} {n : Nat} {v : Int} (h : ¬ s_lineOf d n v = -1) : 0 ≤ s_lineOf d n v ∧ s_lineOf d n v < d 2 := by
  unfold s_lineOf at h ⊢
  rcases fst_rng (fun i => decide ((i : Int) < d 2) && (decide (d (26 + 2 * i) = (n : Int)) && decide (d (27 + 2 * i) = v))) 12 with q | ⟨k, h1, h2, h3⟩
  · exact absurd q h
  · rw [Bool.and_eq_true] at h3
    have h4 := of_decide_eq_true h3.1
    constructor
    · first | omega | (rw [h2]; omega)
    · first | omega | (rw [h2]; omega)
theorem lw_none {g : Mem} {e : Nat} {d : Nat → Int} (h : RelX g e d) (hb : RB2 d) (hbb : RB d) : x_lineWith g e 0 = -1 := by
  unfold x_lineWith
  refine fst_none (fun i hi => ?_)
  have h2 : g e 2 = d 2 := h.2.1.2.2.1
  by_cases q : (i : Int) < d 2
  · have h3 := h.2.2.1 i q
    have h4 := hb.2.1 i q
    have h5 : 1 ≤ g (e + 1) i := by
      rw [h3]
      unfold enc
      have := pw_pos (d (26 + 2 * i)).toNat
      omega
    first
      | (rw [h2, decide_eq_true q, Bool.true_and]; exact decide_eq_false (by omega))
      | (simp only [h2]; rw [decide_eq_false (p := g (e + 1) i = 0) (by omega)]; simp)
  · first
      | (rw [h2, decide_eq_false q]; rfl)
      | (simp only [h2]; simp [q])
theorem telC_o {g : Mem} {e c a : Nat} {x y z u : Int} (h1 : a ≠ e) (h2 : a ≠ e + 35 + c) : telC g e c x y z u a = g a := funext fun j => by unfold telC; rw [if_neg h1, if_neg h2]

set_option maxRecDepth 20000 in
theorem c_readGroup {w : Wd} {sh : Shp} {g : Mem} {R tx : Nat} (hR : RdS sh.1 R tx) {T : Tx} {d : Nat → Int} {s : Nat → Bool} {st : Nat} (htx : tx < R ∨ R + 76 ≤ tx) (H0 : CRd g R tx T d s st)  : CT w mX8_readGroup [.ref (R)] sh g (iQ sh (CP g R tx T (P_group T st d s (st + szT T st)))) := by
  have F0 : FrR g g R := FrR.rf
  have hX0 := H0.1
  have hk0 := H0.2.1
  have hq0 := H0.2.2.1
  have hR0 := H0.2.2.2.1
  have hP0 := H0.2.2.2.2.1
  have hT7 := hX0.1
  have hTb := hX0.2.2.2
  have hbb := hP0.1
  have hr0 := hk0.2.2.1
  have hb2 := hbb.2.2.1
  have hb3 := hbb.2.2.2.1
  have hb4 := hbb.2.2.2.2.1
  have hb5 := hbb.2.2.2.2.2.1
  refine j_entry (by decide) rfl (Nat.le_of_ble_eq_true rfl) (fun h => by cases h) rfl ?_
  show J w mX8_readGroup 0 [(0, .ref (R))] [] sh g 0 0 _
  refine j_aload_n 1 0 dX8_readGroup_0 rfl rfl ?_
  refine j_getr 4 dX8_readGroup_1 rfl fl_X8_12 hR.rd rfl (fun _ _ => rfl) rfl ?_
  refine j_geti 7 dX8_readGroup_4 rfl fl_X8_122 hR.told.ex rfl rfl (fun r_4 => ?_)
  refine j_top (y := d 3) (hR0.2.1.2.2.2.1) ?_
  refine j_iconst 8 dX8_readGroup_7 rfl ?_
  refine j_icmp_lt 11 18 dX8_readGroup_8 rfl rfl ⟨by omega, by omega⟩ (r32 (by decide) (by decide)) (fun c_8 => ?_) (fun c_8 => ?_)
  · obtain ⟨c, hc⟩ := Int.eq_ofNat_of_zero_le hbb.2.2.2.1.1
    have hz1 : szT T st = szT T st := rfl
    refine j_aload_n 19 0 dX8_readGroup_18 rfl rfl ?_
    refine j_callV 22 (As := []) (kc2 := 0) (ks2 := 0) dX8_readGroup_19 rfl mvX8_advance lk_X8_45 hR.rd rfl ⟨Nat.le_of_ble_eq_true rfl, rfl⟩ rfl rfl (Nat.le_of_ble_eq_true rfl) ⟨Nat.le_of_ble_eq_true rfl, Nat.le_of_ble_eq_true rfl⟩ ⟨Nat.le_of_ble_eq_true rfl, Nat.le_of_ble_eq_true rfl⟩ (c_adv hR htx H0 hz1) x_d (k_d0 ?_)
    refine j_mn (fun g1 hg1 => ?_)
    have H1 : CRd g1 R tx T d s (sk T (st + szT T st)) := by rw [hg1]; exact H0.adv htx hz1
    have F1 : FrR g g1 R := by rw [hg1]; exact F0.adv
    obtain ⟨hX1, hk1, hq1, hR1, hP1, hs1, he1⟩ := id H1
    have hr1 := hk1.2.2.1
    refine j_aload_n 23 0 dX8_readGroup_22 rfl rfl ?_
    rcases namC T (sk T (st + szT T st)) with hA | hA | hA
    ·
      refine j_callV 26 (As := []) (kc2 := 0) (ks2 := 0) dX8_readGroup_23 rfl mvX8_checkName lk_X8_125 hR.rd rfl ⟨Nat.le_of_ble_eq_true rfl, rfl⟩ rfl rfl (Nat.le_of_ble_eq_true rfl) ⟨Nat.le_of_ble_eq_true rfl, Nat.le_of_ble_eq_true rfl⟩ ⟨Nat.le_of_ble_eq_true rfl, Nat.le_of_ble_eq_true rfl⟩ (c_nam1 hR hX1 hk1 hq1  hA.1 hA.2) x_d (k_d1 ?_)
      refine j_if_ne 29 31 dX8_readGroup_26 rfl rfl (r32 (by decide) (by decide)) (fun c_26 => ?_) (fun c_26 => absurd c_26 (by decide))
      have hnm := name_of hTb hk1 hA.1 hA.2
      have hvn := (nm_parts hA.2 hA.1).1
      refine j_aload_n 32 0 dX8_readGroup_31 rfl rfl ?_
      refine j_getl 35 dX8_readGroup_32 rfl fl_X8_128 hR.rd rfl rfl (fun r_32 => ?_)
      refine j_topL (y := nm27 (nmH T (sk T (st + szT T st))) (nmT T (sk T (st + szT T st)))) (hnm.1) ?_
      refine j_lstore_n 36 (L2 := [(1, .long (i64 (nm27 (nmH T (sk T (st + szT T st))) (nmT T (sk T (st + szT T st)))))), (0, .ref (R))]) dX8_readGroup_35 rfl rfl (Nat.le_of_ble_eq_true rfl) rfl ?_
      refine j_aload_n 37 1 dX8_readGroup_36 rfl rfl ?_
      refine j_getr 40 dX8_readGroup_37 rfl fl_X8_12 hR.rd rfl (fun _ _ => rfl) rfl ?_
      refine j_lload_n 41 0 dX8_readGroup_40 rfl rfl ?_
      refine j_callV 44 (As := [.long (i64 (nm27 (nmH T (sk T (st + szT T st))) (nmT T (sk T (st + szT T st)))))]) (kc2 := 0) (ks2 := 0) dX8_readGroup_41 rfl mvX1_groupNamed lk_X8_132 hR.told.ex rfl ⟨Nat.le_of_ble_eq_true rfl, rfl⟩ rfl rfl (Nat.le_of_ble_eq_true rfl) ⟨Nat.le_of_ble_eq_true rfl, Nat.le_of_ble_eq_true rfl⟩ ⟨Nat.le_of_ble_eq_true rfl, Nat.le_of_ble_eq_true rfl⟩ (c_groupNamed hR.told hR1.1 (by rw [← hnm.1]; exact ⟨by omega, by omega⟩)) x_d (k_d1 ?_)
      refine j_top (y := s_groupOf d (nmH T (sk T (st + szT T st))) (nmT T (sk T (st + szT T st)))) (rel_groupNamed hR1 hP1 hvn) ?_
      refine j_iconst 45 dX8_readGroup_44 rfl ?_
      refine j_icmp_eq 48 55 dX8_readGroup_45 rfl rfl (fst_r32 _ (by decide)) (r32 (by decide) (by decide)) (fun c_45 => ?_) (fun c_45 => ?_)
      · have hz2 : szT T (sk T (st + szT T st)) = ln T (sk T (st + szT T st)) := sz_L hTb hA.1
        refine j_aload_n 56 1 dX8_readGroup_55 rfl rfl ?_
        refine j_callV 59 (As := []) (kc2 := 0) (ks2 := 0) dX8_readGroup_56 rfl mvX8_advance lk_X8_45 hR.rd rfl ⟨Nat.le_of_ble_eq_true rfl, rfl⟩ rfl rfl (Nat.le_of_ble_eq_true rfl) ⟨Nat.le_of_ble_eq_true rfl, Nat.le_of_ble_eq_true rfl⟩ ⟨Nat.le_of_ble_eq_true rfl, Nat.le_of_ble_eq_true rfl⟩ (c_adv hR htx H1 hz2) x_d (k_d0 ?_)
        refine j_mn (fun g2 hg2 => ?_)
        have H2 : CRd g2 R tx T d s (sk T ((sk T (st + szT T st)) + ln T (sk T (st + szT T st)))) := by rw [hg2]; exact H1.adv htx hz2
        have F2 : FrR g g2 R := by rw [hg2]; exact F1.adv
        obtain ⟨hX2, hk2, hq2, hR2, hP2, hs2, he2⟩ := id H2
        have hr2 := hk2.2.2.1
        refine j_aload_n 60 1 dX8_readGroup_59 rfl rfl ?_
        refine j_iconst 61 dX8_readGroup_60 rfl ?_
        refine j_bipush 63 dX8_readGroup_61 rfl (by decide) ?_
        rcases numC T (sk T ((sk T (st + szT T st)) + ln T (sk T (st + szT T st)))) (1) (8) with hB | hB | hB
        ·
          refine j_callV 66 (As := [.int (i32 (1)), .int (i32 (8))]) (kc2 := 0) (ks2 := 0) dX8_readGroup_63 rfl mvX8_checkNumber lk_X8_71 hR.rd rfl ⟨Nat.le_of_ble_eq_true rfl, rfl⟩ rfl rfl (Nat.le_of_ble_eq_true rfl) ⟨Nat.le_of_ble_eq_true rfl, Nat.le_of_ble_eq_true rfl⟩ ⟨Nat.le_of_ble_eq_true rfl, Nat.le_of_ble_eq_true rfl⟩ (c_num1 hR hX2 hk2 hq2 (by first | decide | omega) (by first | decide | omega) (by first | decide | omega) (by first | decide | omega) hB.1 hB.2) x_d (k_d1 ?_)
          refine j_if_ne 69 71 dX8_readGroup_66 rfl rfl (r32 (by decide) (by decide)) (fun c_66 => ?_) (fun c_66 => absurd c_66 (by decide))
          have hnu2 := num_of hTb hk2 hB.1
          have hz3 : szT T (sk T ((sk T (st + szT T st)) + ln T (sk T (st + szT T st)))) = dn T (sk T ((sk T (st + szT T st)) + ln T (sk T (st + szT T st)))) := sz_D hTb hB.1
          refine j_aload_n 72 1 dX8_readGroup_71 rfl rfl ?_
          refine j_geti 75 dX8_readGroup_72 rfl fl_X8_75 hR.rd rfl rfl (fun r_72 => ?_)
          refine j_top (y := (nv T (sk T ((sk T (st + szT T st)) + ln T (sk T (st + szT T st)))))) (hnu2.1 (by omega)) ?_
          refine j_istore_n 76 (L2 := [(3, .int (i32 ((nv T (sk T ((sk T (st + szT T st)) + ln T (sk T (st + szT T st)))))))), (1, .long (i64 (nm27 (nmH T (sk T (st + szT T st))) (nmT T (sk T (st + szT T st)))))), (0, .ref (R))]) dX8_readGroup_75 rfl rfl (Nat.le_of_ble_eq_true rfl) rfl ?_
          refine j_aload_n 77 2 dX8_readGroup_76 rfl rfl ?_
          refine j_callV 80 (As := []) (kc2 := 0) (ks2 := 0) dX8_readGroup_77 rfl mvX8_advance lk_X8_45 hR.rd rfl ⟨Nat.le_of_ble_eq_true rfl, rfl⟩ rfl rfl (Nat.le_of_ble_eq_true rfl) ⟨Nat.le_of_ble_eq_true rfl, Nat.le_of_ble_eq_true rfl⟩ ⟨Nat.le_of_ble_eq_true rfl, Nat.le_of_ble_eq_true rfl⟩ (c_adv hR htx H2 hz3) x_d (k_d0 ?_)
          refine j_mn (fun g3 hg3 => ?_)
          have H3 : CRd g3 R tx T d s (sk T ((sk T ((sk T (st + szT T st)) + ln T (sk T (st + szT T st)))) + dn T (sk T ((sk T (st + szT T st)) + ln T (sk T (st + szT T st)))))) := by rw [hg3]; exact H2.adv htx hz3
          have F3 : FrR g g3 R := by rw [hg3]; exact F2.adv
          obtain ⟨hX3, hk3, hq3, hR3, hP3, hs3, he3⟩ := id H3
          have hr3 := hk3.2.2.1
          refine j_aload_n 81 2 dX8_readGroup_80 rfl rfl ?_
          refine j_iconst 82 dX8_readGroup_81 rfl ?_
          refine j_iload_n 83 0 dX8_readGroup_82 rfl rfl ?_
          refine j_iconst 84 dX8_readGroup_83 rfl ?_
          refine j_isub 85 dX8_readGroup_84 rfl ?_
          rcases numC T (sk T ((sk T ((sk T (st + szT T st)) + ln T (sk T (st + szT T st)))) + dn T (sk T ((sk T (st + szT T st)) + ln T (sk T (st + szT T st)))))) (0) ((nv T (sk T ((sk T (st + szT T st)) + ln T (sk T (st + szT T st))))) - 1) with hC | hC | hC
          ·
            refine j_callV 88 (As := [.int (i32 (0)), .int (i32 (((nv T (sk T ((sk T (st + szT T st)) + ln T (sk T (st + szT T st)))))) - (1)))]) (kc2 := 0) (ks2 := 0) dX8_readGroup_85 rfl mvX8_checkNumber lk_X8_71 hR.rd rfl ⟨Nat.le_of_ble_eq_true rfl, rfl⟩ rfl rfl (Nat.le_of_ble_eq_true rfl) ⟨Nat.le_of_ble_eq_true rfl, Nat.le_of_ble_eq_true rfl⟩ ⟨Nat.le_of_ble_eq_true rfl, Nat.le_of_ble_eq_true rfl⟩ (c_num1 hR hX3 hk3 hq3 (by first | decide | omega) (by first | decide | omega) (by first | decide | omega) (by first | decide | omega) hC.1 hC.2) x_d (k_d1 ?_)
            refine j_if_ne 91 93 dX8_readGroup_88 rfl rfl (r32 (by decide) (by decide)) (fun c_88 => ?_) (fun c_88 => absurd c_88 (by decide))
            have hnu3 := num_of hTb hk3 hC.1
            have hz5 : szT T (sk T ((sk T ((sk T (st + szT T st)) + ln T (sk T (st + szT T st)))) + dn T (sk T ((sk T (st + szT T st)) + ln T (sk T (st + szT T st)))))) = dn T (sk T ((sk T ((sk T (st + szT T st)) + ln T (sk T (st + szT T st)))) + dn T (sk T ((sk T (st + szT T st)) + ln T (sk T (st + szT T st)))))) := sz_D hTb hC.1
            refine j_aload_n 94 2 dX8_readGroup_93 rfl rfl ?_
            refine j_getr 97 dX8_readGroup_94 rfl fl_X8_12 hR.rd rfl (fun _ _ => rfl) rfl ?_
            refine j_lload_n 98 1 dX8_readGroup_97 rfl rfl ?_
            refine j_iload_n 99 0 dX8_readGroup_98 rfl rfl ?_
            refine j_aload_n 100 2 dX8_readGroup_99 rfl rfl ?_
            refine j_geti 103 dX8_readGroup_100 rfl fl_X8_75 hR.rd rfl rfl (fun r_100 => ?_)
            refine j_top (y := (nv T (sk T ((sk T ((sk T (st + szT T st)) + ln T (sk T (st + szT T st)))) + dn T (sk T ((sk T (st + szT T st)) + ln T (sk T (st + szT T st)))))))) (hnu3.1 (by omega)) ?_
            refine j_callV 106 (As := [.long (i64 (nm27 (nmH T (sk T (st + szT T st))) (nmT T (sk T (st + szT T st))))), .int (i32 ((nv T (sk T ((sk T (st + szT T st)) + ln T (sk T (st + szT T st))))))), .int (i32 ((nv T (sk T ((sk T ((sk T (st + szT T st)) + ln T (sk T (st + szT T st)))) + dn T (sk T ((sk T (st + szT T st)) + ln T (sk T (st + szT T st)))))))))]) (kc2 := 0) (ks2 := 0) dX8_readGroup_103 rfl mvX1_tellGroup lk_X8_136 hR.told.ex rfl ⟨Nat.le_of_ble_eq_true rfl, rfl⟩ rfl rfl (Nat.le_of_ble_eq_true rfl) ⟨Nat.le_of_ble_eq_true rfl, Nat.le_of_ble_eq_true rfl⟩ ⟨Nat.le_of_ble_eq_true rfl, Nat.le_of_ble_eq_true rfl⟩ (c_tellGroup hR.told (c := c) (by rw [← hc]; exact hR3.2.1.2.2.2.1) (by omega) (by rw [← hnm.1]; exact ⟨by omega, by omega⟩) (r32 (by omega) (by omega)) (r32 (by omega) (by omega))) x_d (k_d0 ?_)
            refine j_mn (fun g4 hg4 => ?_)
            have hE4 : RelX g4 (R + 1) (a_group d (nmH T (sk T (st + szT T st))) (nmT T (sk T (st + szT T st))) (nv T (sk T ((sk T (st + szT T st)) + ln T (sk T (st + szT T st))))) (nv T (sk T ((sk T ((sk T (st + szT T st)) + ln T (sk T (st + szT T st)))) + dn T (sk T ((sk T (st + szT T st)) + ln T (sk T (st + szT T st)))))))) := by rw [hg4]; exact rel_group2 (e := R + 1) hc (by omega) hvn hB.2 hC.2.1 hR3 hP3
            have H4 : CRd g4 R tx T (a_group d (nmH T (sk T (st + szT T st))) (nmT T (sk T (st + szT T st))) (nv T (sk T ((sk T (st + szT T st)) + ln T (sk T (st + szT T st))))) (nv T (sk T ((sk T ((sk T (st + szT T st)) + ln T (sk T (st + szT T st)))) + dn T (sk T ((sk T (st + szT T st)) + ln T (sk T (st + szT T st)))))))) s (sk T ((sk T ((sk T (st + szT T st)) + ln T (sk T (st + szT T st)))) + dn T (sk T ((sk T (st + szT T st)) + ln T (sk T (st + szT T st)))))) := H3.upd (fun j => by rw [hg4]; repeat (first | rw [up2_row (by omega)] | rw [up2_a (by omega)])) (by rw [hg4]; repeat (first | rw [up2_row (by omega)] | rw [up2_a (by omega)])) hE4 (pinv_group hc (by omega) hvn hB.2 hC.2.1 hP3)
            have F4 : FrR g g4 R := F3.tr (fun a ha => by rw [hg4]; repeat (first | rw [up2_row (by omega)] | rw [up2_a (by omega)]))
            refine j_aload_n 107 2 dX8_readGroup_106 rfl rfl ?_
            refine j_callV 110 (As := []) (kc2 := 0) (ks2 := 0) dX8_readGroup_107 rfl mvX8_advance lk_X8_45 hR.rd rfl ⟨Nat.le_of_ble_eq_true rfl, rfl⟩ rfl rfl (Nat.le_of_ble_eq_true rfl) ⟨Nat.le_of_ble_eq_true rfl, Nat.le_of_ble_eq_true rfl⟩ ⟨Nat.le_of_ble_eq_true rfl, Nat.le_of_ble_eq_true rfl⟩ (c_adv hR htx H4 hz5) x_d (k_d0 ?_)
            refine j_mn (fun g5 hg5 => ?_)
            have H5 : CRd g5 R tx T (a_group d (nmH T (sk T (st + szT T st))) (nmT T (sk T (st + szT T st))) (nv T (sk T ((sk T (st + szT T st)) + ln T (sk T (st + szT T st))))) (nv T (sk T ((sk T ((sk T (st + szT T st)) + ln T (sk T (st + szT T st)))) + dn T (sk T ((sk T (st + szT T st)) + ln T (sk T (st + szT T st)))))))) s (sk T ((sk T ((sk T ((sk T (st + szT T st)) + ln T (sk T (st + szT T st)))) + dn T (sk T ((sk T (st + szT T st)) + ln T (sk T (st + szT T st)))))) + dn T (sk T ((sk T ((sk T (st + szT T st)) + ln T (sk T (st + szT T st)))) + dn T (sk T ((sk T (st + szT T st)) + ln T (sk T (st + szT T st)))))))) := by rw [hg5]; exact H4.adv htx hz5
            have F5 : FrR g g5 R := by rw [hg5]; exact F4.adv
            obtain ⟨hX5, hk5, hq5, hR5, hP5, hs5, he5⟩ := id H5
            have hr5 := hk5.2.2.1
            refine j_iconst 111 dX8_readGroup_110 rfl ?_
            exact j_zret dX8_readGroup_111 rfl (Or.inr rfl) (⟨_, rfl, rfl, cp_ok F5 H5 (p2 := (sk T ((sk T ((sk T (st + szT T st)) + ln T (sk T (st + szT T st)))) + dn T (sk T ((sk T (st + szT T st)) + ln T (sk T (st + szT T st)))))) + dn T (sk T ((sk T ((sk T (st + szT T st)) + ln T (sk T (st + szT T st)))) + dn T (sk T ((sk T (st + szT T st)) + ln T (sk T (st + szT T st))))))) rfl (by unfold P_group; rw [if_neg (show ¬ 5 ≤ d 3 by omega), kNam_1 hA, if_pos c_45, kNum_1 hB, kNum_1 hC])⟩)
          ·
            refine j_callV 88 (As := [.int (i32 (0)), .int (i32 (((nv T (sk T ((sk T (st + szT T st)) + ln T (sk T (st + szT T st)))))) - (1)))]) (kc2 := 0) (ks2 := 0) dX8_readGroup_85 rfl mvX8_checkNumber lk_X8_71 hR.rd rfl ⟨Nat.le_of_ble_eq_true rfl, rfl⟩ rfl rfl (Nat.le_of_ble_eq_true rfl) ⟨Nat.le_of_ble_eq_true rfl, Nat.le_of_ble_eq_true rfl⟩ ⟨Nat.le_of_ble_eq_true rfl, Nat.le_of_ble_eq_true rfl⟩ (c_num2 hR hX3 hk3 hq3 (by first | decide | omega) (by first | decide | omega) (by first | decide | omega) (by first | decide | omega) hC) x_d (k_d1 ?_)
            refine j_if_ne 91 93 dX8_readGroup_88 rfl rfl (r32 (by decide) (by decide)) (fun c_88 => absurd c_88 (by decide)) (fun c_88 => ?_)
            refine j_iconst 92 dX8_readGroup_91 rfl ?_
            exact j_zret dX8_readGroup_92 rfl (Or.inl rfl) (⟨_, rfl, rfl, cp_bad F3 hR3.1 (by unfold P_group; rw [if_neg (show ¬ 5 ≤ d 3 by omega), kNam_1 hA, if_pos c_45, kNum_1 hB, kNum_2 hC])⟩)
          ·
            refine j_callV 88 (As := [.int (i32 (0)), .int (i32 (((nv T (sk T ((sk T (st + szT T st)) + ln T (sk T (st + szT T st)))))) - (1)))]) (kc2 := 0) (ks2 := 0) dX8_readGroup_85 rfl mvX8_checkNumber lk_X8_71 hR.rd rfl ⟨Nat.le_of_ble_eq_true rfl, rfl⟩ rfl rfl (Nat.le_of_ble_eq_true rfl) ⟨Nat.le_of_ble_eq_true rfl, Nat.le_of_ble_eq_true rfl⟩ ⟨Nat.le_of_ble_eq_true rfl, Nat.le_of_ble_eq_true rfl⟩ (c_num3 hR hX3 hk3 hq3 (by first | decide | omega) (by first | decide | omega) (by first | decide | omega) (by first | decide | omega) hC.1 hC.2) x_d (k_d1 ?_)
            refine j_if_ne 91 93 dX8_readGroup_88 rfl rfl (r32 (by decide) (by decide)) (fun c_88 => absurd c_88 (by decide)) (fun c_88 => ?_)
            refine j_iconst 92 dX8_readGroup_91 rfl ?_
            exact j_zret dX8_readGroup_92 rfl (Or.inl rfl) (⟨_, rfl, rfl, cp_bad F3 hR3.1 (by unfold P_group; rw [if_neg (show ¬ 5 ≤ d 3 by omega), kNam_1 hA, if_pos c_45, kNum_1 hB, kNum_3 hC])⟩)
        ·
          refine j_callV 66 (As := [.int (i32 (1)), .int (i32 (8))]) (kc2 := 0) (ks2 := 0) dX8_readGroup_63 rfl mvX8_checkNumber lk_X8_71 hR.rd rfl ⟨Nat.le_of_ble_eq_true rfl, rfl⟩ rfl rfl (Nat.le_of_ble_eq_true rfl) ⟨Nat.le_of_ble_eq_true rfl, Nat.le_of_ble_eq_true rfl⟩ ⟨Nat.le_of_ble_eq_true rfl, Nat.le_of_ble_eq_true rfl⟩ (c_num2 hR hX2 hk2 hq2 (by first | decide | omega) (by first | decide | omega) (by first | decide | omega) (by first | decide | omega) hB) x_d (k_d1 ?_)
          refine j_if_ne 69 71 dX8_readGroup_66 rfl rfl (r32 (by decide) (by decide)) (fun c_66 => absurd c_66 (by decide)) (fun c_66 => ?_)
          refine j_iconst 70 dX8_readGroup_69 rfl ?_
          exact j_zret dX8_readGroup_70 rfl (Or.inl rfl) (⟨_, rfl, rfl, cp_bad F2 hR2.1 (by unfold P_group; rw [if_neg (show ¬ 5 ≤ d 3 by omega), kNam_1 hA, if_pos c_45, kNum_2 hB])⟩)
        ·
          refine j_callV 66 (As := [.int (i32 (1)), .int (i32 (8))]) (kc2 := 0) (ks2 := 0) dX8_readGroup_63 rfl mvX8_checkNumber lk_X8_71 hR.rd rfl ⟨Nat.le_of_ble_eq_true rfl, rfl⟩ rfl rfl (Nat.le_of_ble_eq_true rfl) ⟨Nat.le_of_ble_eq_true rfl, Nat.le_of_ble_eq_true rfl⟩ ⟨Nat.le_of_ble_eq_true rfl, Nat.le_of_ble_eq_true rfl⟩ (c_num3 hR hX2 hk2 hq2 (by first | decide | omega) (by first | decide | omega) (by first | decide | omega) (by first | decide | omega) hB.1 hB.2) x_d (k_d1 ?_)
          refine j_if_ne 69 71 dX8_readGroup_66 rfl rfl (r32 (by decide) (by decide)) (fun c_66 => absurd c_66 (by decide)) (fun c_66 => ?_)
          refine j_iconst 70 dX8_readGroup_69 rfl ?_
          exact j_zret dX8_readGroup_70 rfl (Or.inl rfl) (⟨_, rfl, rfl, cp_bad F2 hR2.1 (by unfold P_group; rw [if_neg (show ¬ 5 ≤ d 3 by omega), kNam_1 hA, if_pos c_45, kNum_3 hB])⟩)
      · refine j_aload_n 49 1 dX8_readGroup_48 rfl rfl ?_
        refine j_bipush 51 dX8_readGroup_49 rfl (by decide) ?_
        refine j_callV 54 (As := [.int (i32 (-4))]) (kc2 := 0) (ks2 := 0) dX8_readGroup_51 rfl mvX8_fail lk_X8_67 hR.rd rfl ⟨Nat.le_of_ble_eq_true rfl, rfl⟩ rfl rfl (Nat.le_of_ble_eq_true rfl) ⟨Nat.le_of_ble_eq_true rfl, Nat.le_of_ble_eq_true rfl⟩ ⟨Nat.le_of_ble_eq_true rfl, Nat.le_of_ble_eq_true rfl⟩ (c_fail hR (q := (sk T (st + szT T st))) (by omega) hr1 (r32 (by decide) (by decide))) x_d (k_d1 ?_)
        exact j_zret dX8_readGroup_54 rfl (Or.inl rfl) (⟨_, rfl, rfl, cp_bad F1 hR1.1 (by unfold P_group; rw [if_neg (show ¬ 5 ≤ d 3 by omega), kNam_1 hA, if_neg c_45])⟩)
    ·
      refine j_callV 26 (As := []) (kc2 := 0) (ks2 := 0) dX8_readGroup_23 rfl mvX8_checkName lk_X8_125 hR.rd rfl ⟨Nat.le_of_ble_eq_true rfl, rfl⟩ rfl rfl (Nat.le_of_ble_eq_true rfl) ⟨Nat.le_of_ble_eq_true rfl, Nat.le_of_ble_eq_true rfl⟩ ⟨Nat.le_of_ble_eq_true rfl, Nat.le_of_ble_eq_true rfl⟩ (c_nam2 hR hX1 hk1 hq1  hA) x_d (k_d1 ?_)
      refine j_if_ne 29 31 dX8_readGroup_26 rfl rfl (r32 (by decide) (by decide)) (fun c_26 => absurd c_26 (by decide)) (fun c_26 => ?_)
      refine j_iconst 30 dX8_readGroup_29 rfl ?_
      exact j_zret dX8_readGroup_30 rfl (Or.inl rfl) (⟨_, rfl, rfl, cp_bad F1 hR1.1 (by unfold P_group; rw [if_neg (show ¬ 5 ≤ d 3 by omega), kNam_2 hA])⟩)
    ·
      refine j_callV 26 (As := []) (kc2 := 0) (ks2 := 0) dX8_readGroup_23 rfl mvX8_checkName lk_X8_125 hR.rd rfl ⟨Nat.le_of_ble_eq_true rfl, rfl⟩ rfl rfl (Nat.le_of_ble_eq_true rfl) ⟨Nat.le_of_ble_eq_true rfl, Nat.le_of_ble_eq_true rfl⟩ ⟨Nat.le_of_ble_eq_true rfl, Nat.le_of_ble_eq_true rfl⟩ (c_nam3 hR hX1 hk1 hq1  hA.1 hA.2) x_d (k_d1 ?_)
      refine j_if_ne 29 31 dX8_readGroup_26 rfl rfl (r32 (by decide) (by decide)) (fun c_26 => absurd c_26 (by decide)) (fun c_26 => ?_)
      refine j_iconst 30 dX8_readGroup_29 rfl ?_
      exact j_zret dX8_readGroup_30 rfl (Or.inl rfl) (⟨_, rfl, rfl, cp_bad F1 hR1.1 (by unfold P_group; rw [if_neg (show ¬ 5 ≤ d 3 by omega), kNam_3 hA])⟩)
  · refine j_aload_n 12 0 dX8_readGroup_11 rfl rfl ?_
    refine j_bipush 14 dX8_readGroup_12 rfl (by decide) ?_
    refine j_callV 17 (As := [.int (i32 (-5))]) (kc2 := 0) (ks2 := 0) dX8_readGroup_14 rfl mvX8_fail lk_X8_67 hR.rd rfl ⟨Nat.le_of_ble_eq_true rfl, rfl⟩ rfl rfl (Nat.le_of_ble_eq_true rfl) ⟨Nat.le_of_ble_eq_true rfl, Nat.le_of_ble_eq_true rfl⟩ ⟨Nat.le_of_ble_eq_true rfl, Nat.le_of_ble_eq_true rfl⟩ (c_fail hR (q := st) (by omega) hr0 (r32 (by decide) (by decide))) x_d (k_d1 ?_)
    exact j_zret dX8_readGroup_17 rfl (Or.inl rfl) (⟨_, rfl, rfl, cp_bad F0 hR0.1 (by unfold P_group; exact if_pos (by omega))⟩)

set_option maxRecDepth 20000 in
theorem c_readCall {w : Wd} {sh : Shp} {g : Mem} {R tx : Nat} (hR : RdS sh.1 R tx) {T : Tx} {d : Nat → Int} {s : Nat → Bool} {st : Nat} (htx : tx < R ∨ R + 76 ≤ tx) (H0 : CRd g R tx T d s st)  : CT w mX8_readCall [.ref (R)] sh g (iQ sh (CP g R tx T (P_call T st d s (st + szT T st)))) := by
  have F0 : FrR g g R := FrR.rf
  have hX0 := H0.1
  have hk0 := H0.2.1
  have hq0 := H0.2.2.1
  have hR0 := H0.2.2.2.1
  have hP0 := H0.2.2.2.2.1
  have hT7 := hX0.1
  have hTb := hX0.2.2.2
  have hbb := hP0.1
  have hr0 := hk0.2.2.1
  have hb2 := hbb.2.2.1
  have hb3 := hbb.2.2.2.1
  have hb4 := hbb.2.2.2.2.1
  have hb5 := hbb.2.2.2.2.2.1
  refine j_entry (by decide) rfl (Nat.le_of_ble_eq_true rfl) (fun h => by cases h) rfl ?_
  show J w mX8_readCall 0 [(0, .ref (R))] [] sh g 0 0 _
  refine j_aload_n 1 0 dX8_readCall_0 rfl rfl ?_
  refine j_getr 4 dX8_readCall_1 rfl fl_X8_12 hR.rd rfl (fun _ _ => rfl) rfl ?_
  refine j_geti 7 dX8_readCall_4 rfl fl_X8_167 hR.told.ex rfl rfl (fun r_4 => ?_)
  refine j_top (y := d 5) (hR0.2.1.2.2.2.2.2.1) ?_
  refine j_bipush 9 dX8_readCall_7 rfl (by decide) ?_
  refine j_icmp_lt 12 19 dX8_readCall_9 rfl rfl ⟨by omega, by omega⟩ (r32 (by decide) (by decide)) (fun c_9 => ?_) (fun c_9 => ?_)
  · obtain ⟨c, hc⟩ := Int.eq_ofNat_of_zero_le hbb.2.2.2.2.2.1.1
    have hz1 : szT T st = szT T st := rfl
    refine j_aload_n 20 0 dX8_readCall_19 rfl rfl ?_
    refine j_callV 23 (As := []) (kc2 := 0) (ks2 := 0) dX8_readCall_20 rfl mvX8_advance lk_X8_45 hR.rd rfl ⟨Nat.le_of_ble_eq_true rfl, rfl⟩ rfl rfl (Nat.le_of_ble_eq_true rfl) ⟨Nat.le_of_ble_eq_true rfl, Nat.le_of_ble_eq_true rfl⟩ ⟨Nat.le_of_ble_eq_true rfl, Nat.le_of_ble_eq_true rfl⟩ (c_adv hR htx H0 hz1) x_d (k_d0 ?_)
    refine j_mn (fun g1 hg1 => ?_)
    have H1 : CRd g1 R tx T d s (sk T (st + szT T st)) := by rw [hg1]; exact H0.adv htx hz1
    have F1 : FrR g g1 R := by rw [hg1]; exact F0.adv
    obtain ⟨hX1, hk1, hq1, hR1, hP1, hs1, he1⟩ := id H1
    have hr1 := hk1.2.2.1
    have hkr := kdT_r (T := T) (sk T (st + szT T st))
    refine j_aload_n 24 0 dX8_readCall_23 rfl rfl ?_
    refine j_geti 27 dX8_readCall_24 rfl fl_X8_52 hR.rd rfl rfl (fun r_24 => ?_)
    refine j_top (y := kdT T (sk T (st + szT T st))) (hk1.2.1) ?_
    refine j_iconst 28 dX8_readCall_27 rfl ?_
    refine j_icmp_eq 31 38 dX8_readCall_28 rfl rfl ⟨by omega, by omega⟩ (r32 (by decide) (by decide)) (fun c_28 => ?_) (fun c_28 => ?_)
    · have hA := (kd_D hTb).mp c_28
      have hrow := row_of hTb hk1 hA
      have hdb := bv_rng (bd_of (T := T) (q := (sk T (st + szT T st))) _ (Nat.le_refl _))
      refine j_aload_n 39 0 dX8_readCall_38 rfl rfl ?_
      refine j_getr 42 dX8_readCall_39 rfl fl_X8_12 hR.rd rfl (fun _ _ => rfl) rfl ?_
      rcases Nat.lt_or_ge 6 (dn T (sk T (st + szT T st))) with hW | hW
      ·
        refine j_aload_n 43 0 dX8_readCall_42 rfl rfl ?_
        refine j_geti 46 dX8_readCall_43 rfl fl_X8_111 hR.rd rfl rfl (fun r_43 => ?_)
        refine j_top (y := 0) (hrow.2.1 hW) ?_
        refine j_callV 49 (As := [.int (i32 (0))]) (kc2 := 0) (ks2 := 0) dX8_readCall_46 rfl mvX1_lineWith lk_X8_114 hR.told.ex rfl ⟨Nat.le_of_ble_eq_true rfl, rfl⟩ rfl rfl (Nat.le_of_ble_eq_true rfl) ⟨Nat.le_of_ble_eq_true rfl, Nat.le_of_ble_eq_true rfl⟩ ⟨Nat.le_of_ble_eq_true rfl, Nat.le_of_ble_eq_true rfl⟩ (c_lineWith hR.told (by rw [hR1.2.1.2.2.1]; omega) (r32 (by decide) (by decide))) x_d (k_d1 ?_)
        refine j_top (y := -1) (lw_none hR1 hP1.2.1 hP1.1) ?_
        refine j_istore_n 50 (L2 := [(1, .int (i32 (-1))), (0, .ref (R))]) dX8_readCall_49 rfl rfl (Nat.le_of_ble_eq_true rfl) rfl ?_
        refine j_iload_n 51 0 dX8_readCall_50 rfl rfl ?_
        refine j_iconst 52 dX8_readCall_51 rfl ?_
        refine j_icmp_ne 55 62 dX8_readCall_52 rfl rfl (r32 (by decide) (by decide)) (r32 (by decide) (by decide)) (fun c_52 => absurd rfl c_52) (fun c_52 => ?_)
        refine j_aload_n 56 1 dX8_readCall_55 rfl rfl ?_
        refine j_bipush 58 dX8_readCall_56 rfl (by decide) ?_
        refine j_callV 61 (As := [.int (i32 (-4))]) (kc2 := 0) (ks2 := 0) dX8_readCall_58 rfl mvX8_fail lk_X8_67 hR.rd rfl ⟨Nat.le_of_ble_eq_true rfl, rfl⟩ rfl rfl (Nat.le_of_ble_eq_true rfl) ⟨Nat.le_of_ble_eq_true rfl, Nat.le_of_ble_eq_true rfl⟩ ⟨Nat.le_of_ble_eq_true rfl, Nat.le_of_ble_eq_true rfl⟩ (c_fail hR (q := (sk T (st + szT T st))) (by omega) hr1 (r32 (by decide) (by decide))) x_d (k_d1 ?_)
        exact j_zret dX8_readCall_61 rfl (Or.inl rfl) (⟨_, rfl, rfl, cp_bad F1 hR1.1 (by unfold P_call; rw [if_neg (show ¬ 40 ≤ d 5 by omega), if_neg hA, if_pos (Or.inl hW)])⟩)
      ·
        refine j_aload_n 43 0 dX8_readCall_42 rfl rfl ?_
        refine j_geti 46 dX8_readCall_43 rfl fl_X8_111 hR.rd rfl rfl (fun r_43 => ?_)
        have hro : g1 R 13 = enc ((dn T (sk T (st + szT T st)) : Nat) : Int) (bv (fT T (sk T (st + szT T st))) (dn T (sk T (st + szT T st)))) := hrow.1 hW
        refine j_top (y := enc ((dn T (sk T (st + szT T st)) : Nat) : Int) (bv (fT T (sk T (st + szT T st))) (dn T (sk T (st + szT T st))))) (hro) ?_
        refine j_callV 49 (As := [.int (i32 (enc ((dn T (sk T (st + szT T st)) : Nat) : Int) (bv (fT T (sk T (st + szT T st))) (dn T (sk T (st + szT T st))))))]) (kc2 := 0) (ks2 := 0) dX8_readCall_46 rfl mvX1_lineWith lk_X8_114 hR.told.ex rfl ⟨Nat.le_of_ble_eq_true rfl, rfl⟩ rfl rfl (Nat.le_of_ble_eq_true rfl) ⟨Nat.le_of_ble_eq_true rfl, Nat.le_of_ble_eq_true rfl⟩ ⟨Nat.le_of_ble_eq_true rfl, Nat.le_of_ble_eq_true rfl⟩ (c_lineWith hR.told (by rw [hR1.2.1.2.2.1]; omega) (by rw [← hro]; exact ⟨by omega, by omega⟩)) x_d (k_d1 ?_)
        refine j_top (y := s_lineOf d ((dn T (sk T (st + szT T st)) : Nat) : Int) (bv (fT T (sk T (st + szT T st))) (dn T (sk T (st + szT T st))))) (rel_lineWith hR1 hP1.2.1 hdb.1 hdb.2) ?_
        refine j_istore_n 50 (L2 := [(1, .int (i32 (s_lineOf d ((dn T (sk T (st + szT T st)) : Nat) : Int) (bv (fT T (sk T (st + szT T st))) (dn T (sk T (st + szT T st))))))), (0, .ref (R))]) dX8_readCall_49 rfl rfl (Nat.le_of_ble_eq_true rfl) rfl ?_
        refine j_iload_n 51 0 dX8_readCall_50 rfl rfl ?_
        refine j_iconst 52 dX8_readCall_51 rfl ?_
        refine j_icmp_ne 55 62 dX8_readCall_52 rfl rfl (fst_r32 _ (by decide)) (r32 (by decide) (by decide)) (fun c_52 => ?_) (fun c_52 => ?_)
        · have hz2 : szT T (sk T (st + szT T st)) = dn T (sk T (st + szT T st)) := sz_D hTb hA
          have hli := s_lineOf_r c_52
          refine j_aload_n 63 1 dX8_readCall_62 rfl rfl ?_
          refine j_callV 66 (As := []) (kc2 := 0) (ks2 := 0) dX8_readCall_63 rfl mvX8_advance lk_X8_45 hR.rd rfl ⟨Nat.le_of_ble_eq_true rfl, rfl⟩ rfl rfl (Nat.le_of_ble_eq_true rfl) ⟨Nat.le_of_ble_eq_true rfl, Nat.le_of_ble_eq_true rfl⟩ ⟨Nat.le_of_ble_eq_true rfl, Nat.le_of_ble_eq_true rfl⟩ (c_adv hR htx H1 hz2) x_d (k_d0 ?_)
          refine j_mn (fun g2 hg2 => ?_)
          have H2 : CRd g2 R tx T d s (sk T ((sk T (st + szT T st)) + dn T (sk T (st + szT T st)))) := by rw [hg2]; exact H1.adv htx hz2
          have F2 : FrR g g2 R := by rw [hg2]; exact F1.adv
          obtain ⟨hX2, hk2, hq2, hR2, hP2, hs2, he2⟩ := id H2
          have hr2 := hk2.2.2.1
          refine j_aload_n 67 1 dX8_readCall_66 rfl rfl ?_
          refine j_bipush 69 dX8_readCall_67 rfl (by decide) ?_
          rcases digC T (sk T ((sk T (st + szT T st)) + dn T (sk T (st + szT T st)))) 6 with hB | hB | hB
          ·
            refine j_callV 72 (As := [.int (i32 (6))]) (kc2 := 0) (ks2 := 0) dX8_readCall_69 rfl mvX8_checkDigits lk_X8_108 hR.rd rfl ⟨Nat.le_of_ble_eq_true rfl, rfl⟩ rfl rfl (Nat.le_of_ble_eq_true rfl) ⟨Nat.le_of_ble_eq_true rfl, Nat.le_of_ble_eq_true rfl⟩ ⟨Nat.le_of_ble_eq_true rfl, Nat.le_of_ble_eq_true rfl⟩ (c_dig1 hR hX2 hk2 hq2 (by decide) hB.1 hB.2) x_d (k_d1 ?_)
            refine j_if_ne 75 77 dX8_readCall_72 rfl rfl (r32 (by decide) (by decide)) (fun c_72 => ?_) (fun c_72 => absurd c_72 (by decide))
            have hrow2 := row_of hTb hk2 hB.1
            have hdb2 := bv_rng (bd_of (T := T) (q := (sk T ((sk T (st + szT T st)) + dn T (sk T (st + szT T st))))) _ (Nat.le_refl _))
            have hro2 : g2 R 13 = enc ((dn T (sk T ((sk T (st + szT T st)) + dn T (sk T (st + szT T st)))) : Nat) : Int) (bv (fT T (sk T ((sk T (st + szT T st)) + dn T (sk T (st + szT T st))))) (dn T (sk T ((sk T (st + szT T st)) + dn T (sk T (st + szT T st)))))) := hrow2.1 hB.2
            have hz3 : szT T (sk T ((sk T (st + szT T st)) + dn T (sk T (st + szT T st)))) = dn T (sk T ((sk T (st + szT T st)) + dn T (sk T (st + szT T st)))) := sz_D hTb hB.1
            refine j_aload_n 78 1 dX8_readCall_77 rfl rfl ?_
            refine j_geti 81 dX8_readCall_78 rfl fl_X8_111 hR.rd rfl rfl (fun r_78 => ?_)
            refine j_top (y := enc ((dn T (sk T ((sk T (st + szT T st)) + dn T (sk T (st + szT T st)))) : Nat) : Int) (bv (fT T (sk T ((sk T (st + szT T st)) + dn T (sk T (st + szT T st))))) (dn T (sk T ((sk T (st + szT T st)) + dn T (sk T (st + szT T st))))))) (hro2) ?_
            refine j_istore_n 82 (L2 := [(2, .int (i32 (enc ((dn T (sk T ((sk T (st + szT T st)) + dn T (sk T (st + szT T st)))) : Nat) : Int) (bv (fT T (sk T ((sk T (st + szT T st)) + dn T (sk T (st + szT T st))))) (dn T (sk T ((sk T (st + szT T st)) + dn T (sk T (st + szT T st))))))))), (1, .int (i32 (s_lineOf d ((dn T (sk T (st + szT T st)) : Nat) : Int) (bv (fT T (sk T (st + szT T st))) (dn T (sk T (st + szT T st))))))), (0, .ref (R))]) dX8_readCall_81 rfl rfl (Nat.le_of_ble_eq_true rfl) rfl ?_
            refine j_aload_n 83 2 dX8_readCall_82 rfl rfl ?_
            refine j_callV 86 (As := []) (kc2 := 0) (ks2 := 0) dX8_readCall_83 rfl mvX8_advance lk_X8_45 hR.rd rfl ⟨Nat.le_of_ble_eq_true rfl, rfl⟩ rfl rfl (Nat.le_of_ble_eq_true rfl) ⟨Nat.le_of_ble_eq_true rfl, Nat.le_of_ble_eq_true rfl⟩ ⟨Nat.le_of_ble_eq_true rfl, Nat.le_of_ble_eq_true rfl⟩ (c_adv hR htx H2 hz3) x_d (k_d0 ?_)
            refine j_mn (fun g3 hg3 => ?_)
            have H3 : CRd g3 R tx T d s (sk T ((sk T ((sk T (st + szT T st)) + dn T (sk T (st + szT T st)))) + dn T (sk T ((sk T (st + szT T st)) + dn T (sk T (st + szT T st)))))) := by rw [hg3]; exact H2.adv htx hz3
            have F3 : FrR g g3 R := by rw [hg3]; exact F2.adv
            obtain ⟨hX3, hk3, hq3, hR3, hP3, hs3, he3⟩ := id H3
            have hr3 := hk3.2.2.1
            refine j_aload_n 87 2 dX8_readCall_86 rfl rfl ?_
            refine j_iconst 88 dX8_readCall_87 rfl ?_
            refine j_bipush 90 dX8_readCall_88 rfl (by decide) ?_
            rcases numC T (sk T ((sk T ((sk T (st + szT T st)) + dn T (sk T (st + szT T st)))) + dn T (sk T ((sk T (st + szT T st)) + dn T (sk T (st + szT T st)))))) (1) (99) with hC | hC | hC
            ·
              refine j_callV 93 (As := [.int (i32 (1)), .int (i32 (99))]) (kc2 := 0) (ks2 := 0) dX8_readCall_90 rfl mvX8_checkNumber lk_X8_71 hR.rd rfl ⟨Nat.le_of_ble_eq_true rfl, rfl⟩ rfl rfl (Nat.le_of_ble_eq_true rfl) ⟨Nat.le_of_ble_eq_true rfl, Nat.le_of_ble_eq_true rfl⟩ ⟨Nat.le_of_ble_eq_true rfl, Nat.le_of_ble_eq_true rfl⟩ (c_num1 hR hX3 hk3 hq3 (by first | decide | omega) (by first | decide | omega) (by first | decide | omega) (by first | decide | omega) hC.1 hC.2) x_d (k_d1 ?_)
              refine j_if_ne 96 98 dX8_readCall_93 rfl rfl (r32 (by decide) (by decide)) (fun c_93 => ?_) (fun c_93 => absurd c_93 (by decide))
              have hnu3 := num_of hTb hk3 hC.1
              have hz4 : szT T (sk T ((sk T ((sk T (st + szT T st)) + dn T (sk T (st + szT T st)))) + dn T (sk T ((sk T (st + szT T st)) + dn T (sk T (st + szT T st)))))) = dn T (sk T ((sk T ((sk T (st + szT T st)) + dn T (sk T (st + szT T st)))) + dn T (sk T ((sk T (st + szT T st)) + dn T (sk T (st + szT T st)))))) := sz_D hTb hC.1
              refine j_aload_n 99 2 dX8_readCall_98 rfl rfl ?_
              refine j_geti 102 dX8_readCall_99 rfl fl_X8_75 hR.rd rfl rfl (fun r_99 => ?_)
              refine j_top (y := (nv T (sk T ((sk T ((sk T (st + szT T st)) + dn T (sk T (st + szT T st)))) + dn T (sk T ((sk T (st + szT T st)) + dn T (sk T (st + szT T st)))))))) (hnu3.1 (by omega)) ?_
              refine j_istore_n 103 (L2 := [(3, .int (i32 ((nv T (sk T ((sk T ((sk T (st + szT T st)) + dn T (sk T (st + szT T st)))) + dn T (sk T ((sk T (st + szT T st)) + dn T (sk T (st + szT T st)))))))))), (2, .int (i32 (enc ((dn T (sk T ((sk T (st + szT T st)) + dn T (sk T (st + szT T st)))) : Nat) : Int) (bv (fT T (sk T ((sk T (st + szT T st)) + dn T (sk T (st + szT T st))))) (dn T (sk T ((sk T (st + szT T st)) + dn T (sk T (st + szT T st))))))))), (1, .int (i32 (s_lineOf d ((dn T (sk T (st + szT T st)) : Nat) : Int) (bv (fT T (sk T (st + szT T st))) (dn T (sk T (st + szT T st))))))), (0, .ref (R))]) dX8_readCall_102 rfl rfl (Nat.le_of_ble_eq_true rfl) rfl ?_
              refine j_aload_n 104 3 dX8_readCall_103 rfl rfl ?_
              refine j_callV 107 (As := []) (kc2 := 0) (ks2 := 0) dX8_readCall_104 rfl mvX8_advance lk_X8_45 hR.rd rfl ⟨Nat.le_of_ble_eq_true rfl, rfl⟩ rfl rfl (Nat.le_of_ble_eq_true rfl) ⟨Nat.le_of_ble_eq_true rfl, Nat.le_of_ble_eq_true rfl⟩ ⟨Nat.le_of_ble_eq_true rfl, Nat.le_of_ble_eq_true rfl⟩ (c_adv hR htx H3 hz4) x_d (k_d0 ?_)
              refine j_mn (fun g4 hg4 => ?_)
              have H4 : CRd g4 R tx T d s (sk T ((sk T ((sk T ((sk T (st + szT T st)) + dn T (sk T (st + szT T st)))) + dn T (sk T ((sk T (st + szT T st)) + dn T (sk T (st + szT T st)))))) + dn T (sk T ((sk T ((sk T (st + szT T st)) + dn T (sk T (st + szT T st)))) + dn T (sk T ((sk T (st + szT T st)) + dn T (sk T (st + szT T st)))))))) := by rw [hg4]; exact H3.adv htx hz4
              have F4 : FrR g g4 R := by rw [hg4]; exact F3.adv
              obtain ⟨hX4, hk4, hq4, hR4, hP4, hs4, he4⟩ := id H4
              have hr4 := hk4.2.2.1
              refine j_aload_n 108 3 dX8_readCall_107 rfl rfl ?_
              refine j_iconst 109 dX8_readCall_108 rfl ?_
              refine j_sipush 112 dX8_readCall_109 rfl (by decide) ?_
              rcases numC T (sk T ((sk T ((sk T ((sk T (st + szT T st)) + dn T (sk T (st + szT T st)))) + dn T (sk T ((sk T (st + szT T st)) + dn T (sk T (st + szT T st)))))) + dn T (sk T ((sk T ((sk T (st + szT T st)) + dn T (sk T (st + szT T st)))) + dn T (sk T ((sk T (st + szT T st)) + dn T (sk T (st + szT T st)))))))) (1) (999) with hD | hD | hD
              ·
                refine j_callV 115 (As := [.int (i32 (1)), .int (i32 (999))]) (kc2 := 0) (ks2 := 0) dX8_readCall_112 rfl mvX8_checkNumber lk_X8_71 hR.rd rfl ⟨Nat.le_of_ble_eq_true rfl, rfl⟩ rfl rfl (Nat.le_of_ble_eq_true rfl) ⟨Nat.le_of_ble_eq_true rfl, Nat.le_of_ble_eq_true rfl⟩ ⟨Nat.le_of_ble_eq_true rfl, Nat.le_of_ble_eq_true rfl⟩ (c_num1 hR hX4 hk4 hq4 (by first | decide | omega) (by first | decide | omega) (by first | decide | omega) (by first | decide | omega) hD.1 hD.2) x_d (k_d1 ?_)
                refine j_if_ne 118 120 dX8_readCall_115 rfl rfl (r32 (by decide) (by decide)) (fun c_115 => ?_) (fun c_115 => absurd c_115 (by decide))
                have hnu4 := num_of hTb hk4 hD.1
                have hz6 : szT T (sk T ((sk T ((sk T ((sk T (st + szT T st)) + dn T (sk T (st + szT T st)))) + dn T (sk T ((sk T (st + szT T st)) + dn T (sk T (st + szT T st)))))) + dn T (sk T ((sk T ((sk T (st + szT T st)) + dn T (sk T (st + szT T st)))) + dn T (sk T ((sk T (st + szT T st)) + dn T (sk T (st + szT T st)))))))) = dn T (sk T ((sk T ((sk T ((sk T (st + szT T st)) + dn T (sk T (st + szT T st)))) + dn T (sk T ((sk T (st + szT T st)) + dn T (sk T (st + szT T st)))))) + dn T (sk T ((sk T ((sk T (st + szT T st)) + dn T (sk T (st + szT T st)))) + dn T (sk T ((sk T (st + szT T st)) + dn T (sk T (st + szT T st)))))))) := sz_D hTb hD.1
                refine j_aload_n 121 3 dX8_readCall_120 rfl rfl ?_
                refine j_getr 124 dX8_readCall_121 rfl fl_X8_12 hR.rd rfl (fun _ _ => rfl) rfl ?_
                refine j_iload_n 125 2 dX8_readCall_124 rfl rfl ?_
                refine j_iload_n 126 1 dX8_readCall_125 rfl rfl ?_
                refine j_iload_n 127 0 dX8_readCall_126 rfl rfl ?_
                refine j_aload_n 128 3 dX8_readCall_127 rfl rfl ?_
                refine j_geti 131 dX8_readCall_128 rfl fl_X8_75 hR.rd rfl rfl (fun r_128 => ?_)
                refine j_top (y := (nv T (sk T ((sk T ((sk T ((sk T (st + szT T st)) + dn T (sk T (st + szT T st)))) + dn T (sk T ((sk T (st + szT T st)) + dn T (sk T (st + szT T st)))))) + dn T (sk T ((sk T ((sk T (st + szT T st)) + dn T (sk T (st + szT T st)))) + dn T (sk T ((sk T (st + szT T st)) + dn T (sk T (st + szT T st)))))))))) (hnu4.1 (by omega)) ?_
                refine j_callV 134 (As := [.int (i32 (s_lineOf d ((dn T (sk T (st + szT T st)) : Nat) : Int) (bv (fT T (sk T (st + szT T st))) (dn T (sk T (st + szT T st)))))), .int (i32 (enc ((dn T (sk T ((sk T (st + szT T st)) + dn T (sk T (st + szT T st)))) : Nat) : Int) (bv (fT T (sk T ((sk T (st + szT T st)) + dn T (sk T (st + szT T st))))) (dn T (sk T ((sk T (st + szT T st)) + dn T (sk T (st + szT T st)))))))), .int (i32 ((nv T (sk T ((sk T ((sk T (st + szT T st)) + dn T (sk T (st + szT T st)))) + dn T (sk T ((sk T (st + szT T st)) + dn T (sk T (st + szT T st))))))))), .int (i32 ((nv T (sk T ((sk T ((sk T ((sk T (st + szT T st)) + dn T (sk T (st + szT T st)))) + dn T (sk T ((sk T (st + szT T st)) + dn T (sk T (st + szT T st)))))) + dn T (sk T ((sk T ((sk T (st + szT T st)) + dn T (sk T (st + szT T st)))) + dn T (sk T ((sk T (st + szT T st)) + dn T (sk T (st + szT T st)))))))))))]) (kc2 := 0) (ks2 := 0) dX8_readCall_131 rfl mvX1_tellCall lk_X8_170 hR.told.ex rfl ⟨Nat.le_of_ble_eq_true rfl, rfl⟩ rfl rfl (Nat.le_of_ble_eq_true rfl) ⟨Nat.le_of_ble_eq_true rfl, Nat.le_of_ble_eq_true rfl⟩ ⟨Nat.le_of_ble_eq_true rfl, Nat.le_of_ble_eq_true rfl⟩ (c_tellCall hR.told hR4.1 (c := c) (by rw [← hc]; exact hR4.2.1.2.2.2.2.2.1) (by omega) (fst_r32 _ (by decide)) (by rw [← hro2]; exact ⟨by omega, by omega⟩) (r32 (by omega) (by omega)) (r32 (by omega) (by omega))) x_d (k_d1 ?_)
                refine j_pop 135 dX8_readCall_134 rfl rfl ?_
                refine j_mn (fun g5 hg5 => ?_)
                have hE5 : RelX g5 (R + 1) (s_lay d (s_lineOf d ((dn T (sk T (st + szT T st)) : Nat) : Int) (bv (fT T (sk T (st + szT T st))) (dn T (sk T (st + szT T st))))) ((dn T (sk T ((sk T (st + szT T st)) + dn T (sk T (st + szT T st)))) : Nat) : Int) (bv (fT T (sk T ((sk T (st + szT T st)) + dn T (sk T (st + szT T st))))) (dn T (sk T ((sk T (st + szT T st)) + dn T (sk T (st + szT T st)))))) (nv T (sk T ((sk T ((sk T (st + szT T st)) + dn T (sk T (st + szT T st)))) + dn T (sk T ((sk T (st + szT T st)) + dn T (sk T (st + szT T st))))))) (nv T (sk T ((sk T ((sk T ((sk T (st + szT T st)) + dn T (sk T (st + szT T st)))) + dn T (sk T ((sk T (st + szT T st)) + dn T (sk T (st + szT T st)))))) + dn T (sk T ((sk T ((sk T (st + szT T st)) + dn T (sk T (st + szT T st)))) + dn T (sk T ((sk T (st + szT T st)) + dn T (sk T (st + szT T st)))))))))) := by rw [hg5]; exact ((hP4.kx hR4).lay hc (by omega) hli ⟨by omega, by omega⟩ hdb2 hC.2).1
                have H5 : CRd g5 R tx T (s_lay d (s_lineOf d ((dn T (sk T (st + szT T st)) : Nat) : Int) (bv (fT T (sk T (st + szT T st))) (dn T (sk T (st + szT T st))))) ((dn T (sk T ((sk T (st + szT T st)) + dn T (sk T (st + szT T st)))) : Nat) : Int) (bv (fT T (sk T ((sk T (st + szT T st)) + dn T (sk T (st + szT T st))))) (dn T (sk T ((sk T (st + szT T st)) + dn T (sk T (st + szT T st)))))) (nv T (sk T ((sk T ((sk T (st + szT T st)) + dn T (sk T (st + szT T st)))) + dn T (sk T ((sk T (st + szT T st)) + dn T (sk T (st + szT T st))))))) (nv T (sk T ((sk T ((sk T ((sk T (st + szT T st)) + dn T (sk T (st + szT T st)))) + dn T (sk T ((sk T (st + szT T st)) + dn T (sk T (st + szT T st)))))) + dn T (sk T ((sk T ((sk T (st + szT T st)) + dn T (sk T (st + szT T st)))) + dn T (sk T ((sk T (st + szT T st)) + dn T (sk T (st + szT T st)))))))))) s (sk T ((sk T ((sk T ((sk T (st + szT T st)) + dn T (sk T (st + szT T st)))) + dn T (sk T ((sk T (st + szT T st)) + dn T (sk T (st + szT T st)))))) + dn T (sk T ((sk T ((sk T (st + szT T st)) + dn T (sk T (st + szT T st)))) + dn T (sk T ((sk T (st + szT T st)) + dn T (sk T (st + szT T st)))))))) := H4.upd (fun j => by rw [hg5, telC_o (by omega) (by omega)]) (by rw [hg5, telC_o (by omega) (by omega)]) hE5 (pinv_call hc (by omega) hli ⟨by omega, by omega⟩ hdb2 hC.2 hP4)
                have F5 : FrR g g5 R := F4.tr (fun a ha => by rw [hg5, telC_o (by omega) (by omega)])
                refine j_aload_n 136 3 dX8_readCall_135 rfl rfl ?_
                refine j_callV 139 (As := []) (kc2 := 0) (ks2 := 0) dX8_readCall_136 rfl mvX8_advance lk_X8_45 hR.rd rfl ⟨Nat.le_of_ble_eq_true rfl, rfl⟩ rfl rfl (Nat.le_of_ble_eq_true rfl) ⟨Nat.le_of_ble_eq_true rfl, Nat.le_of_ble_eq_true rfl⟩ ⟨Nat.le_of_ble_eq_true rfl, Nat.le_of_ble_eq_true rfl⟩ (c_adv hR htx H5 hz6) x_d (k_d0 ?_)
                refine j_mn (fun g6 hg6 => ?_)
                have H6 : CRd g6 R tx T (s_lay d (s_lineOf d ((dn T (sk T (st + szT T st)) : Nat) : Int) (bv (fT T (sk T (st + szT T st))) (dn T (sk T (st + szT T st))))) ((dn T (sk T ((sk T (st + szT T st)) + dn T (sk T (st + szT T st)))) : Nat) : Int) (bv (fT T (sk T ((sk T (st + szT T st)) + dn T (sk T (st + szT T st))))) (dn T (sk T ((sk T (st + szT T st)) + dn T (sk T (st + szT T st)))))) (nv T (sk T ((sk T ((sk T (st + szT T st)) + dn T (sk T (st + szT T st)))) + dn T (sk T ((sk T (st + szT T st)) + dn T (sk T (st + szT T st))))))) (nv T (sk T ((sk T ((sk T ((sk T (st + szT T st)) + dn T (sk T (st + szT T st)))) + dn T (sk T ((sk T (st + szT T st)) + dn T (sk T (st + szT T st)))))) + dn T (sk T ((sk T ((sk T (st + szT T st)) + dn T (sk T (st + szT T st)))) + dn T (sk T ((sk T (st + szT T st)) + dn T (sk T (st + szT T st)))))))))) s (sk T ((sk T ((sk T ((sk T ((sk T (st + szT T st)) + dn T (sk T (st + szT T st)))) + dn T (sk T ((sk T (st + szT T st)) + dn T (sk T (st + szT T st)))))) + dn T (sk T ((sk T ((sk T (st + szT T st)) + dn T (sk T (st + szT T st)))) + dn T (sk T ((sk T (st + szT T st)) + dn T (sk T (st + szT T st)))))))) + dn T (sk T ((sk T ((sk T ((sk T (st + szT T st)) + dn T (sk T (st + szT T st)))) + dn T (sk T ((sk T (st + szT T st)) + dn T (sk T (st + szT T st)))))) + dn T (sk T ((sk T ((sk T (st + szT T st)) + dn T (sk T (st + szT T st)))) + dn T (sk T ((sk T (st + szT T st)) + dn T (sk T (st + szT T st)))))))))) := by rw [hg6]; exact H5.adv htx hz6
                have F6 : FrR g g6 R := by rw [hg6]; exact F5.adv
                obtain ⟨hX6, hk6, hq6, hR6, hP6, hs6, he6⟩ := id H6
                have hr6 := hk6.2.2.1
                refine j_iconst 140 dX8_readCall_139 rfl ?_
                exact j_zret dX8_readCall_140 rfl (Or.inr rfl) (⟨_, rfl, rfl, cp_ok F6 H6 (p2 := (sk T ((sk T ((sk T ((sk T (st + szT T st)) + dn T (sk T (st + szT T st)))) + dn T (sk T ((sk T (st + szT T st)) + dn T (sk T (st + szT T st)))))) + dn T (sk T ((sk T ((sk T (st + szT T st)) + dn T (sk T (st + szT T st)))) + dn T (sk T ((sk T (st + szT T st)) + dn T (sk T (st + szT T st)))))))) + dn T (sk T ((sk T ((sk T ((sk T (st + szT T st)) + dn T (sk T (st + szT T st)))) + dn T (sk T ((sk T (st + szT T st)) + dn T (sk T (st + szT T st)))))) + dn T (sk T ((sk T ((sk T (st + szT T st)) + dn T (sk T (st + szT T st)))) + dn T (sk T ((sk T (st + szT T st)) + dn T (sk T (st + szT T st))))))))) rfl (by unfold P_call; rw [if_neg (show ¬ 40 ≤ d 5 by omega), if_neg hA, if_neg (show ¬ (6 < dn T (sk T (st + szT T st)) ∨ s_lineOf d ((dn T (sk T (st + szT T st)) : Nat) : Int) (bv (fT T (sk T (st + szT T st))) (dn T (sk T (st + szT T st)))) = -1) by omega), kDig_1 hB, kNum_1 hC, kNum_1 hD])⟩)
              ·
                refine j_callV 115 (As := [.int (i32 (1)), .int (i32 (999))]) (kc2 := 0) (ks2 := 0) dX8_readCall_112 rfl mvX8_checkNumber lk_X8_71 hR.rd rfl ⟨Nat.le_of_ble_eq_true rfl, rfl⟩ rfl rfl (Nat.le_of_ble_eq_true rfl) ⟨Nat.le_of_ble_eq_true rfl, Nat.le_of_ble_eq_true rfl⟩ ⟨Nat.le_of_ble_eq_true rfl, Nat.le_of_ble_eq_true rfl⟩ (c_num2 hR hX4 hk4 hq4 (by first | decide | omega) (by first | decide | omega) (by first | decide | omega) (by first | decide | omega) hD) x_d (k_d1 ?_)
                refine j_if_ne 118 120 dX8_readCall_115 rfl rfl (r32 (by decide) (by decide)) (fun c_115 => absurd c_115 (by decide)) (fun c_115 => ?_)
                refine j_iconst 119 dX8_readCall_118 rfl ?_
                exact j_zret dX8_readCall_119 rfl (Or.inl rfl) (⟨_, rfl, rfl, cp_bad F4 hR4.1 (by unfold P_call; rw [if_neg (show ¬ 40 ≤ d 5 by omega), if_neg hA, if_neg (show ¬ (6 < dn T (sk T (st + szT T st)) ∨ s_lineOf d ((dn T (sk T (st + szT T st)) : Nat) : Int) (bv (fT T (sk T (st + szT T st))) (dn T (sk T (st + szT T st)))) = -1) by omega), kDig_1 hB, kNum_1 hC, kNum_2 hD])⟩)
              ·
                refine j_callV 115 (As := [.int (i32 (1)), .int (i32 (999))]) (kc2 := 0) (ks2 := 0) dX8_readCall_112 rfl mvX8_checkNumber lk_X8_71 hR.rd rfl ⟨Nat.le_of_ble_eq_true rfl, rfl⟩ rfl rfl (Nat.le_of_ble_eq_true rfl) ⟨Nat.le_of_ble_eq_true rfl, Nat.le_of_ble_eq_true rfl⟩ ⟨Nat.le_of_ble_eq_true rfl, Nat.le_of_ble_eq_true rfl⟩ (c_num3 hR hX4 hk4 hq4 (by first | decide | omega) (by first | decide | omega) (by first | decide | omega) (by first | decide | omega) hD.1 hD.2) x_d (k_d1 ?_)
                refine j_if_ne 118 120 dX8_readCall_115 rfl rfl (r32 (by decide) (by decide)) (fun c_115 => absurd c_115 (by decide)) (fun c_115 => ?_)
                refine j_iconst 119 dX8_readCall_118 rfl ?_
                exact j_zret dX8_readCall_119 rfl (Or.inl rfl) (⟨_, rfl, rfl, cp_bad F4 hR4.1 (by unfold P_call; rw [if_neg (show ¬ 40 ≤ d 5 by omega), if_neg hA, if_neg (show ¬ (6 < dn T (sk T (st + szT T st)) ∨ s_lineOf d ((dn T (sk T (st + szT T st)) : Nat) : Int) (bv (fT T (sk T (st + szT T st))) (dn T (sk T (st + szT T st)))) = -1) by omega), kDig_1 hB, kNum_1 hC, kNum_3 hD])⟩)
            ·
              refine j_callV 93 (As := [.int (i32 (1)), .int (i32 (99))]) (kc2 := 0) (ks2 := 0) dX8_readCall_90 rfl mvX8_checkNumber lk_X8_71 hR.rd rfl ⟨Nat.le_of_ble_eq_true rfl, rfl⟩ rfl rfl (Nat.le_of_ble_eq_true rfl) ⟨Nat.le_of_ble_eq_true rfl, Nat.le_of_ble_eq_true rfl⟩ ⟨Nat.le_of_ble_eq_true rfl, Nat.le_of_ble_eq_true rfl⟩ (c_num2 hR hX3 hk3 hq3 (by first | decide | omega) (by first | decide | omega) (by first | decide | omega) (by first | decide | omega) hC) x_d (k_d1 ?_)
              refine j_if_ne 96 98 dX8_readCall_93 rfl rfl (r32 (by decide) (by decide)) (fun c_93 => absurd c_93 (by decide)) (fun c_93 => ?_)
              refine j_iconst 97 dX8_readCall_96 rfl ?_
              exact j_zret dX8_readCall_97 rfl (Or.inl rfl) (⟨_, rfl, rfl, cp_bad F3 hR3.1 (by unfold P_call; rw [if_neg (show ¬ 40 ≤ d 5 by omega), if_neg hA, if_neg (show ¬ (6 < dn T (sk T (st + szT T st)) ∨ s_lineOf d ((dn T (sk T (st + szT T st)) : Nat) : Int) (bv (fT T (sk T (st + szT T st))) (dn T (sk T (st + szT T st)))) = -1) by omega), kDig_1 hB, kNum_2 hC])⟩)
            ·
              refine j_callV 93 (As := [.int (i32 (1)), .int (i32 (99))]) (kc2 := 0) (ks2 := 0) dX8_readCall_90 rfl mvX8_checkNumber lk_X8_71 hR.rd rfl ⟨Nat.le_of_ble_eq_true rfl, rfl⟩ rfl rfl (Nat.le_of_ble_eq_true rfl) ⟨Nat.le_of_ble_eq_true rfl, Nat.le_of_ble_eq_true rfl⟩ ⟨Nat.le_of_ble_eq_true rfl, Nat.le_of_ble_eq_true rfl⟩ (c_num3 hR hX3 hk3 hq3 (by first | decide | omega) (by first | decide | omega) (by first | decide | omega) (by first | decide | omega) hC.1 hC.2) x_d (k_d1 ?_)
              refine j_if_ne 96 98 dX8_readCall_93 rfl rfl (r32 (by decide) (by decide)) (fun c_93 => absurd c_93 (by decide)) (fun c_93 => ?_)
              refine j_iconst 97 dX8_readCall_96 rfl ?_
              exact j_zret dX8_readCall_97 rfl (Or.inl rfl) (⟨_, rfl, rfl, cp_bad F3 hR3.1 (by unfold P_call; rw [if_neg (show ¬ 40 ≤ d 5 by omega), if_neg hA, if_neg (show ¬ (6 < dn T (sk T (st + szT T st)) ∨ s_lineOf d ((dn T (sk T (st + szT T st)) : Nat) : Int) (bv (fT T (sk T (st + szT T st))) (dn T (sk T (st + szT T st)))) = -1) by omega), kDig_1 hB, kNum_3 hC])⟩)
          ·
            refine j_callV 72 (As := [.int (i32 (6))]) (kc2 := 0) (ks2 := 0) dX8_readCall_69 rfl mvX8_checkDigits lk_X8_108 hR.rd rfl ⟨Nat.le_of_ble_eq_true rfl, rfl⟩ rfl rfl (Nat.le_of_ble_eq_true rfl) ⟨Nat.le_of_ble_eq_true rfl, Nat.le_of_ble_eq_true rfl⟩ ⟨Nat.le_of_ble_eq_true rfl, Nat.le_of_ble_eq_true rfl⟩ (c_dig2 hR hX2 hk2 hq2 (by decide) hB) x_d (k_d1 ?_)
            refine j_if_ne 75 77 dX8_readCall_72 rfl rfl (r32 (by decide) (by decide)) (fun c_72 => absurd c_72 (by decide)) (fun c_72 => ?_)
            refine j_iconst 76 dX8_readCall_75 rfl ?_
            exact j_zret dX8_readCall_76 rfl (Or.inl rfl) (⟨_, rfl, rfl, cp_bad F2 hR2.1 (by unfold P_call; rw [if_neg (show ¬ 40 ≤ d 5 by omega), if_neg hA, if_neg (show ¬ (6 < dn T (sk T (st + szT T st)) ∨ s_lineOf d ((dn T (sk T (st + szT T st)) : Nat) : Int) (bv (fT T (sk T (st + szT T st))) (dn T (sk T (st + szT T st)))) = -1) by omega), kDig_2 hB])⟩)
          ·
            refine j_callV 72 (As := [.int (i32 (6))]) (kc2 := 0) (ks2 := 0) dX8_readCall_69 rfl mvX8_checkDigits lk_X8_108 hR.rd rfl ⟨Nat.le_of_ble_eq_true rfl, rfl⟩ rfl rfl (Nat.le_of_ble_eq_true rfl) ⟨Nat.le_of_ble_eq_true rfl, Nat.le_of_ble_eq_true rfl⟩ ⟨Nat.le_of_ble_eq_true rfl, Nat.le_of_ble_eq_true rfl⟩ (c_dig3 hR hX2 hk2 hq2 (by decide) hB.1 hB.2) x_d (k_d1 ?_)
            refine j_if_ne 75 77 dX8_readCall_72 rfl rfl (r32 (by decide) (by decide)) (fun c_72 => absurd c_72 (by decide)) (fun c_72 => ?_)
            refine j_iconst 76 dX8_readCall_75 rfl ?_
            exact j_zret dX8_readCall_76 rfl (Or.inl rfl) (⟨_, rfl, rfl, cp_bad F2 hR2.1 (by unfold P_call; rw [if_neg (show ¬ 40 ≤ d 5 by omega), if_neg hA, if_neg (show ¬ (6 < dn T (sk T (st + szT T st)) ∨ s_lineOf d ((dn T (sk T (st + szT T st)) : Nat) : Int) (bv (fT T (sk T (st + szT T st))) (dn T (sk T (st + szT T st)))) = -1) by omega), kDig_3 hB])⟩)
        · refine j_aload_n 56 1 dX8_readCall_55 rfl rfl ?_
          refine j_bipush 58 dX8_readCall_56 rfl (by decide) ?_
          refine j_callV 61 (As := [.int (i32 (-4))]) (kc2 := 0) (ks2 := 0) dX8_readCall_58 rfl mvX8_fail lk_X8_67 hR.rd rfl ⟨Nat.le_of_ble_eq_true rfl, rfl⟩ rfl rfl (Nat.le_of_ble_eq_true rfl) ⟨Nat.le_of_ble_eq_true rfl, Nat.le_of_ble_eq_true rfl⟩ ⟨Nat.le_of_ble_eq_true rfl, Nat.le_of_ble_eq_true rfl⟩ (c_fail hR (q := (sk T (st + szT T st))) (by omega) hr1 (r32 (by decide) (by decide))) x_d (k_d1 ?_)
          exact j_zret dX8_readCall_61 rfl (Or.inl rfl) (⟨_, rfl, rfl, cp_bad F1 hR1.1 (by unfold P_call; rw [if_neg (show ¬ 40 ≤ d 5 by omega), if_neg hA, if_pos (Or.inr c_52)])⟩)
    · have hA : dn T (sk T (st + szT T st)) = 0 := Decidable.byContradiction fun z => c_28 ((kd_D hTb).mpr z)
      refine j_aload_n 32 0 dX8_readCall_31 rfl rfl ?_
      refine j_bipush 34 dX8_readCall_32 rfl (by decide) ?_
      refine j_callV 37 (As := [.int (i32 (-2))]) (kc2 := 0) (ks2 := 0) dX8_readCall_34 rfl mvX8_fail lk_X8_67 hR.rd rfl ⟨Nat.le_of_ble_eq_true rfl, rfl⟩ rfl rfl (Nat.le_of_ble_eq_true rfl) ⟨Nat.le_of_ble_eq_true rfl, Nat.le_of_ble_eq_true rfl⟩ ⟨Nat.le_of_ble_eq_true rfl, Nat.le_of_ble_eq_true rfl⟩ (c_fail hR (q := (sk T (st + szT T st))) (by omega) hr1 (r32 (by decide) (by decide))) x_d (k_d1 ?_)
      exact j_zret dX8_readCall_37 rfl (Or.inl rfl) (⟨_, rfl, rfl, cp_bad F1 hR1.1 (by unfold P_call; rw [if_neg (show ¬ 40 ≤ d 5 by omega), if_pos hA])⟩)
  · refine j_aload_n 13 0 dX8_readCall_12 rfl rfl ?_
    refine j_bipush 15 dX8_readCall_13 rfl (by decide) ?_
    refine j_callV 18 (As := [.int (i32 (-5))]) (kc2 := 0) (ks2 := 0) dX8_readCall_15 rfl mvX8_fail lk_X8_67 hR.rd rfl ⟨Nat.le_of_ble_eq_true rfl, rfl⟩ rfl rfl (Nat.le_of_ble_eq_true rfl) ⟨Nat.le_of_ble_eq_true rfl, Nat.le_of_ble_eq_true rfl⟩ ⟨Nat.le_of_ble_eq_true rfl, Nat.le_of_ble_eq_true rfl⟩ (c_fail hR (q := st) (by omega) hr0 (r32 (by decide) (by decide))) x_d (k_d1 ?_)
    exact j_zret dX8_readCall_18 rfl (Or.inl rfl) (⟨_, rfl, rfl, cp_bad F0 hR0.1 (by unfold P_call; exact if_pos (by omega))⟩)
