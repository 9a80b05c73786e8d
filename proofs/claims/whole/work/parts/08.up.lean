/-! A call of a static method under a class that inherits it: the named class is the heir, the code is its ancestor's. (The kit has no row for it.) -/
section TMUP
variable {e : Env} {s s₀ : State}
theorem tm_wpUp {Qw : Unit → Pre} {Ew : CtlPost} {b : Bool} {ac : List Action} {f : JFrame} {ix ci nt cn : Nat} {m : MethodId} {kd kn : Class} {file : ClassFile} {nm ds : String} (ht : s.topJava?.isSome) (hpol : e.platform.polymorphicOnlyByInvokevirtual = true) (hW : s₀.WarmedH s.vm) (hE : s₀.MethodEntryUp e s.vm f.method.cls ix cn m ci) (hkd : s₀.vm.classes[f.method.cls]? = some kd) (hfile : kd.cf = some file) (hpool : file.constantPool[ix]? = some (.methodref ci nt)) (hnt : file.constantPool.nameAndType? nt = some (nm, ds)) (hkn : s₀.vm.classes[cn]? = some kn) (hno : (kn.methods.any fun z => z.name == nm && !z.isStatic && signaturePolymorphic kn z) = false) :
    wp (invokestatic.sem ix) Qw Ew e b ac (s.setTop f) ↔ wp (invokestatic.sem ix) Qw Ew e b ac ((s.setVm (s.vm.calledUp f.method.cls ci ix cn m)).setTop f) := by
  have hpool2 : file.constantPool[ix]? = some (if false then .interfaceMethodref ci nt else .methodref ci nt) := hpool
  obtain ⟨gA, gB, gC, gD⟩ := hE.classFirst
  obtain ⟨a0, ha0, ea0⟩ := hW.alike.2.2 _ _ hkd
  obtain ⟨a2, ha2, ea2⟩ := hE.warmed.alike.2.2 _ _ hkd
  obtain ⟨n1, hn1, en1⟩ := gC.alike.2.2 _ _ hkn
  obtain ⟨n2, hn2, en2⟩ := hE.warmed.alike.2.2 _ _ hkn
  have m0 := memberRef_ask_via (e := e) ha0 (by rw [ea0]; exact hfile) hpool2 hnt
  have m2 := memberRef_ask_via (e := e) ha2 (by rw [ea2]; exact hfile) hpool2 hnt
  have no1 : (n1.methods.any fun z => z.name == nm && !z.isStatic && signaturePolymorphic n1 z) = false := by rw [en1]; exact hno
  have no2 : (n2.methods.any fun z => z.name == nm && !z.isStatic && signaturePolymorphic n2 z) = false := by rw [en2]; exact hno
  have t1 : (s.setVm (s.vm.noted f.method.cls ci (.cls cn))).topJava?.isSome := ht
  have t2 : (s.setVm (s.vm.calledUp f.method.cls ci ix cn m)).topJava?.isSome := ht
  have lk1 : ∀ {q : ClassId → Pre} {b1 : Bool} {ac1 : List Action}, wp (Jvm.resolveClassAt ci) q Ew e b1 ac1 (s.setTop f) ↔ q cn b1 ac1 ((s.setVm (s.vm.noted f.method.cls ci (.cls cn))).setTop f) :=
    W.resolveClassAt_links (t := s.setTop f) (State.method?_setTop f ht) gA
  have lk2 : ∀ {q : MethodId → Pre} {b1 : Bool} {ac1 : List Action}, wp (Jvm.resolveMethodAt ix) q Ew e b1 ac1 ((s.setVm (s.vm.noted f.method.cls ci (.cls cn))).setTop f) ↔ q m b1 ac1 ((s.setVm (s.vm.calledUp f.method.cls ci ix cn m)).setTop f) :=
    W.resolveMethodAt_links (t := (s.setVm (s.vm.noted f.method.cls ci (.cls cn))).setTop f) (State.method?_setTop f t1) gD
  simp [invokestatic.sem, hpol, Seam.memberRefOf, State.method?_setTop f ht, State.method?_setTop f t2, m0, m2, lk1, W.resolveClassAt_ready (s := (s.setVm (s.vm.calledUp f.method.cls ci ix cn m)).setTop f) (State.method?_setTop f t2) hE.classReady, hn1, hn2, no1, no2, lk2, W.resolveMethodAt_ready (s := (s.setVm (s.vm.calledUp f.method.cls ci ix cn m)).setTop f) (State.method?_setTop f t2) hE.ready, -Array.any_eq_true]
end TMUP
section TMUP2
variable {p : Program} {l : Launch} {e : Env} {R : Room} {s : State} {m : MethodId} {args : Array Value} {below : List Frame} {meth : Method} {c : Code} {locs : List Loc} {cells slots : Nat}
/-- the call's first half: the frame of the ancestor's method stands -/
theorem tm_invUp {T : State} (X : Stand p l e R s m args below meth c T locs cells slots) (hexec : p.tables.exec = Jvm.exec) {own owner : String} {index : Nat} {x : MethodName} (hown : s.vm.findClass own = some m.cls) (hlink : (Cond.methodLink own index x).before args s = true) (hsame : (Cond.sameMethod x.cls owner x.name x.desc).before args s = true) (hmh : owner ≠ "java/lang/invoke/MethodHandle" ∧ owner ≠ "java/lang/invoke/VarHandle") {mi : MethodId} {mt : Method} {km : Class} (hn : s.methodNamed? ⟨owner, x.name, x.desc⟩ = some mi) (hmt : s.vm.method? mi = some mt) (hst : mt.isStatic = true) (hkm : s.vm.classes[mi.cls]? = some km) (hini : km.init = .initialized) {g : JFrame} (hg : g.method = m) {av rest : List Value} (hlen : av.length = mt.sig.parameters.length) (hstack : g.stack = av.reverse ++ rest) (hdg : decode c.code g.pc = .ok (.invokestatic index, 3)) :
    ∃ vm', Stand p l e R s m args below meth c (T.setVm vm') locs cells slots ∧ ∀ tg, (∀ ac, Steps p.tables e below (doInvoke e ((T.setVm vm').setTop { g with stack := rest }) ac mi av.toArray).1 tg) → Steps p.tables e below (T.setTop g) tg := by
  have hmagic : e.platform.magicAccessors = ({} : Platform).magicAccessors := by rw [X.admits.platform]
  have hpol : e.platform.polymorphicOnlyByInvokevirtual = true := by rw [X.admits.platform]
  obtain ⟨cn, kn, r1, hcn, hkn, hni, hf, hn1⟩ := Cond.sameMethod_found hsame
  cases hn.symm.trans hn1
  obtain ⟨ci, hl, hright⟩ := Cond.methodLink_specUp hown hcn hkn hni hf hlink e.platform hmagic (by rw [X.admits.platform])
  have hE : s.MethodEntryUp e T.vm m.cls index cn mi ci := State.methodEntryUp X.warmed hl hright
  obtain ⟨ky, hky, hname⟩ := className_of_methodNamed hn
  cases hkm.symm.trans hky
  obtain ⟨kd, file, nt, nm, ds, kn', _, _, hkd, hfile, hpool, hnt, -, -, hkn', -, hnopoly, -⟩ := hl.here
  cases hkn.symm.trans hkn'
  have al := hE.warmed.alike
  obtain ⟨kd2, hkd2, ekd2⟩ := al.2.2 _ _ hkd
  obtain ⟨km2, hkm2, ekm2⟩ := al.2.2 _ _ hkm
  obtain ⟨kn2, hkn2, ekn2⟩ := al.2.2 _ _ hkn
  have hno : (kn.methods.any fun z => z.name == nm && !z.isStatic && signaturePolymorphic kn z) = false := by simp [hnopoly]
  have hno2 : (kn2.methods.any fun z => z.name == nm && !z.isStatic && signaturePolymorphic kn2 z) = false := by rw [ekn2]; exact hno
  have hpool2 : file.constantPool[index]? = some (if false then .interfaceMethodref ci nt else .methodref ci nt) := hpool
  refine ⟨T.vm.calledUp m.cls ci index cn mi, X.noted hE.warmed, fun tg hrest => ?_⟩
  subst hg
  jvm_step X.here [hexec, hdg, tm_wpUp (e := e) (s := T) (s₀ := s) (f := g) X.here.top hpol X.warmed hE hkd hfile hpool hnt hkn hno,
    invokestatic.wp_ready (e := e) (s := T.setVm (T.vm.calledUp g.method.cls ci index cn mi)) (k := km2) (meth := mt) (m := mi) (args := av) (rest := rest) (f := g) X.here.top ⟨ci, nm, ds, false, cn, kn2, memberRef_ask_via (e := e) hkd2 (by rw [ekd2]; exact hfile) hpool2 hnt, hE.classReady, hkn2, hno2⟩ hE.ready hkm2
      (by show (T.vm.calledUp g.method.cls ci index cn mi).method? mi = some mt; rw [al.method?]; exact hmt) (by rw [ekm2]; show signaturePolymorphic km mt = false; simp [signaturePolymorphic, hname, hmh.1, hmh.2]) hst (by rw [ekm2]; exact hini) hlen hstack]
  exact fun ac => hrest _
variable {H : Heap} {Q : State → Prop} {cc : ByteArray} {pc : Nat} {ls : Array Slot} {rest : List Value} {g : tm_G} {A : Nat → Prop} {L : List Nat} {M : tm_M} {Ts : List Cond} {nL : Nat}
/-- isSunday, called under its heir's name -/
theorem tm_callSUp {fr lo : Nat} {As : List Value} {Qc : Array Value → State → Outcome → State → Prop} (S : CallFix p m c cc nL s args Ts RX5) (hK : va_K g.1 vwCl (tm_tys g) s) (hG : tm_S g A s s.heap) (hP : va_P g.1 vwCl (tm_ws g L M) H) (hS : va_S A s.heap H locs) (hM : Met l yX0_isSunday wsX0_isSunday { frames := fr, cells := 0, slots := 0, locals := lo } (tm_PC g A L M As) Qc 0 0 A) (hR : fr + 1 ≤ R.frames ∧ 8 + (1 + 11) + lo ≤ R.locals) (hn : As.length = 1) (hl : ls.size = nL) (hst : 2 * (F0 m pc ls (As.reverse ++ rest)).monitorRoom + (rest.map fun v => v.category).sum ≤ 8) (hdg : decode cc pc = .ok (.invokestatic 7, 3)) (hf : cells + 0 ≤ R.cells ∧ slots + 0 ≤ R.slots) :
    va_Run p l e R s m args below meth c H locs cells slots 0 0 (F0 m pc ls (As.reverse ++ rest)) rest (Qc As.toArray) A := by
  have hx : ∀ w ∈ tm_xw, w.before args s = true := fun w hw => va_Nw.use (tm_xw_on hw) (hG.2.2.2.2.2.2.2.2.2.2.1 w hw)
  have hws : ∀ w ∈ wsX0_isSunday, ∀ (a' : Array Value) (U : State), s.WarmedH U.vm → w.before a' U = true := fun w hw a' U hW => word_at hW (Or.inl (tm_xw_ok w (List.mem_append_right _ hw))) (hx w (List.mem_append_right _ hw))
  have h0 : (Cond.methodLink RX5 7 ⟨RX5, "isSunday", "(I)Z"⟩).before args s = true := hx _ (List.mem_of_getElem? (i := 0) rfl)
  have h1 : (Cond.sameMethod RX5 RX0 "isSunday" "(I)Z").before args s = true := hx _ (List.mem_of_getElem? (i := 1) rfl)
  have h2 : (Cond.static yX0_isSunday).before args s = true := hx _ (List.mem_of_getElem? (i := 2) rfl)
  have h3 : (Cond.initialized RX0).before args s = true := hx _ (List.mem_of_getElem? (i := 3) rfl)
  have h4 : (Cond.code yX0_isSunday cX0_isSunday 1 (some .boolean)).before args s = true := hx _ (List.mem_of_getElem? (i := 4) rfl)
  have hK9 : Back l R p e below s args yX0_isSunday 3 8 (PreOf R 0 0 (tm_PC g A L M As)) (PostOf Qc 0 0 A) := back_of (bytes := cX0_isSunday) (maxL := 1) (ret := some .boolean) hM (tm_Z.blind _) rfl rfl hR.1 hR.2 hws (by exact List.mem_cons_self) (fun a' U hW => word_at hW (Or.inl (by first | rfl | simp [Cond.onTables, Cond.keeps, Cond.steady])) h3)
  obtain ⟨hexec, hb, hml, hown, -⟩ := S
  obtain ⟨mi, mt, q1, q2, -, hsig⟩ : ∃ (mi : MethodId) (mt : Method), s.methodNamed? yX0_isSunday = some mi ∧ s.vm.method? mi = some mt ∧ mt.isStatic = true ∧ parseMethodDescriptor "(I)Z" = some mt.sig := by
    obtain ⟨mi, hmi⟩ : ∃ mi, s.methodNamed? yX0_isSunday = some mi := by
      obtain ⟨_, _, r1, _, _, _, _, hq⟩ := Cond.sameMethod_found h1
      exact ⟨r1, hq⟩
    obtain ⟨mt, c0, r1, -, -, -, -, -, -, r2⟩ := Cond.code_spec hmi h4
    exact ⟨mi, mt, hmi, r1, Cond.static_spec hmi r1 h2, r2⟩
  have hstatic : mt.isStatic = true := Cond.static_spec q1 q2 h2
  obtain ⟨kP, hkP, -⟩ := className_of_methodNamed q1
  have hinitP : kP.init = .initialized := Cond.initialized_spec (findClass_of_methodNamed q1) hkP h3
  have hlen : As.length = mt.sig.parameters.length := by
    have hq : (parseMethodDescriptor "(I)Z").map (fun d => d.parameters.length) = some 1 := by decide +kernel
    rw [hsig] at hq
    rw [hn]
    exact (Option.some.inj hq).symm
  intro T hT X
  obtain ⟨vm1, X1, st1⟩ := tm_invUp X hexec (x := ⟨RX5, "isSunday", "(I)Z"⟩) (owner := RX0) hown h0 h1 ⟨by decide +kernel, by decide +kernel⟩ q1 q2 hstatic hkP hinitP (g := F0 m pc ls (As.reverse ++ rest)) rfl (av := As) (rest := rest) hlen rfl (by rw [hb]; exact hdg)
  obtain ⟨v, ⟨U', l2, c2, s2⟩, X', ⟨g', mk, t, L1, e1, e2, hq, z1, hL, z2, z3⟩, st2⟩ := hK9 m meth c ⟨T.setVm vm1, locs, cells, slots⟩ (F0 m pc ls rest) (.invokestatic 7) mi As.toArray X1 rfl (hl.trans hml.symm) (by rw [hb]; exact hdg) hst (X1.named q1) ⟨hf.1, hf.2, rfl, tm_Z.at hP hK hG hS hT X1.warmed⟩
  dsimp only [Pt.U, Pt.locs, Pt.cells, Pt.slots] at X' e1 e2 z1 z2 z3 st2
  subst z1; subst z2; subst z3
  exact ⟨v, (T.setVm vm1).calling g' mk As.toArray, t, U', L1, hT, X', hL, e1, e2, hq, fun tg h => st1 _ fun ac => by rw [doInvoke_state]; exact st2.trans h⟩
end TMUP2
