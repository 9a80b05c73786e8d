/-! MAKING: a heap whose size is told, worlds that grow -/
def cz_H (g : tm_G) (A : Nat → Prop) (ws : va_W) (h : Nat) (H0 H : Heap) (locs : List Loc) : Prop := H.size = h ∧ va_P g.1 vwCl ws H ∧ va_D A ws ∧ va_S A H0 H locs
/-- the classes over which arrays are made -/
def cz_ao : List String := ["QuarrelDesk$Couple", "QuarrelDesk$Life", "QuarrelDesk$Year"]
def cz_Z (g : tm_G) (A : Nat → Prop) (ws : va_W) (h : Nat) (U : State) : Prop := U.heap.size = h ∧ va_P g.1 vwCl ws U.heap ∧ va_D A ws ∧ va_K g.1 vwCl (tm_tys g) U ∧ tm_S g A U U.heap ∧ ∀ C ∈ cz_ao, va_AO C U
def cz_C (p : Program) (m : MethodId) (c : Code) (cc : ByteArray) (nL : Nat) (s : State) (args : Array Value) (Ts : List Cond) (own : String) (meth : Method) (y : MethodName) (g : tm_G) (A : Nat → Prop) : Prop :=
  CallFix p m c cc nL s args Ts own ∧ meth.sig.returnType = none ∧ meth.locks = false ∧ va_K g.1 vwCl (tm_tys g) s ∧ tm_S g A s s.heap ∧ meth.name = y.name ∧ (∀ q : Nat, s.heap.size ≤ q → A q) ∧ ∀ C ∈ cz_ao, va_AO C s
abbrev cz_Q (g : tm_G) (A : Nat → Prop) (ws : va_W) (h : Nat) : Array Value → State → Outcome → State → Prop := va_Qv (fun _ : Unit => True) (fun _ t => cz_Z g A ws h t) A
theorem cz_Z.blind {g : tm_G} {A : Nat → Prop} {ws : va_W} {h : Nat} (avs : List Value) : FrameBlind (va_Pc avs (cz_Z g A ws h)) :=
  fun a U f mk q => ⟨q.1, q.2.1, q.2.2.1, q.2.2.2.1, va_K.moved (u := U) (U := U.calling f mk a) (Vm.Alike.refl U.vm) q.2.2.2.2.1, tm_S.same (u := U) rfl q.2.2.2.2.2.1, fun C hC => va_AO.moved (u := U) (U := U.calling f mk a) (Vm.Alike.refl U.vm) (q.2.2.2.2.2.2 C hC)⟩
section CZ
variable {p : Program} {l : Launch} {e : Env} {R : Room} {s : State} {m : MethodId} {args : Array Value} {below : List Frame} {meth : Method} {c : Code} {H : Heap} {locs : List Loc} {cells slots : Nat} {Q : State → Prop}
variable {cc : ByteArray} {pc : Nat} {ls : Array Slot} {rest : List Value} {g : tm_G} {A : Nat → Prop} {X Y Y' : va_W} {h : Nat} {own : String} {Ts : List Cond} {nL : Nat} {y : MethodName} {a : Nat}
theorem cz_Z.at {ws : va_W} {U : State} (C0 : cz_C p m c cc nL s args Ts own meth y g A) (hH : cz_H g A ws h s.heap H locs) (hU : U.heap = H) (hW : s.WarmedH U.vm) : cz_Z g A ws h U := by
  obtain ⟨-, -, -, hK, hG, -, -, hO⟩ := C0
  obtain ⟨h1, h2, h3, h4⟩ := hH
  exact ⟨by rw [hU]; exact h1, by rw [hU]; exact h2, h3, va_K.moved hW.alike hK, by rw [hU]; exact (hG.kept h4.2.1).warm hW, fun C hC => va_AO.moved hW.alike (hO C hC)⟩
theorem cz_start {l : Launch} {y : MethodName} {cc : ByteArray} {nL : Nat} {rm : Room} {ws ws' : List Cond} {avs : List Value} {w : va_W} {Qc : Array Value → State → Outcome → State → Prop} {g : tm_G} {A : Nat → Prop} {h mc ms : Nat} (hy : plainFor y = true) (hw : ws = Cond.code y cc nL none :: ws') (hn : (lg_sl avs).length ≤ nL) (hA : ∀ q : Nat, h ≤ q → A q)
    (kk : ∀ (p : Program) (e : Env) (s : State) (m : MethodId) (args : Array Value) (below : List Frame) (meth : Method) (c : Code) (ls : Array Slot), cz_C p m c cc nL s args ws y.cls meth y g A → cz_H g A w h s.heap s.heap [] → lv_has ls nL (lv_args 0 avs) →
      W p l e (headSpec ws rm).room s m args below meth c s.heap [] 0 0 (MQ below Qc args s mc ms A) (F0 m 0 ls [])) : Met l y ws rm (va_Pc avs (cz_Z g A w h)) Qc mc ms A := by
  refine tm_ofW (cc := cc) (nL := nL) (ret := none) hy hw ?_
  intro p e s m args below meth c s₁ B hml hv
  obtain ⟨rfl, hz, hP, hD, hK, hG, hO⟩ := hv
  have hl := lv_entry avs (n := nL) hn
  rw [lg_entry_eq]
  exact kk p e s m _ below meth c _ ⟨⟨B.exec, B.bytes, hml, findClass_of_methodNamed B.named, atoms_spec (ws := ws) B.pre⟩, B.returns, B.notSynchronized, hK, hG, (name_of_methodNamed B.named B.method).1, by rw [hz]; exact hA, hO⟩ ⟨hz, hP, hD, va_S.rf⟩ hl
theorem cz_ret {ws : va_W} (C0 : cz_C p m c cc nL s args Ts own meth y g A) (hH : cz_H g A ws h s.heap H locs) (hdg : decode cc pc = .ok (.return_, 1)) : W p l e R s m args below meth c H locs cells slots (MQ below (cz_Q g A ws h) args s cells slots A) (F0 m pc ls []) := by
  obtain ⟨⟨hx, hb, -⟩, hr, hlocks, -⟩ := id C0
  exact W.vret hx hb hr (fun t ht hW => ⟨⟨(), rfl, trivial, cz_Z.at C0 hH ht hW⟩, hH.2.2.2.F ht⟩) hH.2.2.2.2.2 hdg
theorem cz_ix {i : Nat} {x : Nat × va_E} (hi : Y[i]? = some x) : (X ++ Y)[X.length + i]? = some x := by
  rw [List.getElem?_append_right (by omega), Nat.add_sub_cancel_left, hi]
theorem cz_sx {i : Nat} {x : Nat × va_E} (hy : Y.set i x = Y') : (X ++ Y).set (X.length + i) x = X ++ Y' := by
  rw [List.set_append_right (X.length + i) x (by omega), Nat.add_sub_cancel_left, hy]
theorem cz_put (C0 : cz_C p m c cc nL s args Ts own meth y g A) {C : String} {T : u_T} {N index : Nat} (hin : ∀ w ∈ u_ws C T N, w ∈ Ts) (ty0 : Nat → FieldType) (hty : ∀ k, k < N → parseFieldDescriptor (T k).2.2.1 = some (ty0 k)) (hnm : ∀ a, a < N → ∀ b, b < N → a ≠ b → (T a).2.1 ≠ (T b).2.1) (hH : cz_H g A (X ++ Y) h s.heap H locs) (i : Nat) {ci : Nat} {fs : List Value} (he : Y[i]? = some (a, .inr (ci, fs))) (hc : vwCl[ci]? = some (C, T, N)) (k : Nat) (hk : k < N) (hlink : Cond.fieldLink own index C (T k).2.1 (T k).2.2.1 ∈ Ts) (hown : (T k).1 = C) (hfin : (T k).2.2.2 = false ∨ (T k).2.2.2 = true ∧ y.name = "<init>" ∧ (T k).1 = own) {ty : FieldType} {v : Value} (hd : parseFieldDescriptor (T k).2.2.1 = some ty) (hn : narrow ty v = v) (hfit : fits ty v = true) (hl : k < fs.length) (hY : Y.set i (a, .inr (ci, fs.set k v)) = Y')
    (hdg : decode cc pc = .ok (.putfield index, 3)) (kk : ∀ (H1 : Heap) (locs1 : List Loc), cz_H g A (X ++ Y') h s.heap H1 locs1 → W p l e R s m args below meth c H1 locs1 cells slots Q (F0 m (pc + 3) ls rest)) : W p l e R s m args below meth c H locs cells slots Q (F0 m pc ls (v :: .ref a :: rest)) := by
  obtain ⟨⟨hexec, hb, -, hown1, hts⟩, -, -, hK, -, hname, -⟩ := id C0
  obtain ⟨hz, hP, hD, hS⟩ := hH
  have hix := cz_ix (X := X) he
  have hap := va_apart (own := own) hts hin ty0 hty hnm hK hc
  obtain ⟨r, h1, cell, q1, q2, q3, q4⟩ := hP _ _ hix
  have hr : r = (C, T, N) := Option.some.inj (h1.symm.trans hc)
  subst hr
  obtain ⟨hSl, hfc, kC, hkC, hkind⟩ := hK.1 ci _ hc
  obtain ⟨cf, kf, fi, f, hi, hsl⟩ := hSl k hk
  have hlay := hts _ (hin _ (u_in_lay hk))
  unfold u_lay at hlay
  have hst := (u_facts hfc hkC (u_lays hts hin hk) hi).1
  have hi2 : s.fieldFound? C (T k).2.1 (T k).2.2.1 = some (cf, kf, fi, f) := by rw [← hown]; exact hi
  rcases hfin with hfin | ⟨hfin, hin2, hdecl⟩
  · rw [if_neg (by rw [hfin]; decide)] at hlay
    have h6 := u_store hfc hkC hkind hlay hi hd hn hfit
    refine W.putK hexec hb (f := f) ⟨hown1, hts _ hlink, ⟨_, _, _, hi2⟩, hst⟩ (by rw [q2]; exact h6) q1 q3 (by rw [hsl]; exact k2_hasslot (q4 k hk)) rfl rfl hdg fun H' e1 e2 e3 => ?_
    rw [hsl] at e1 ⊢
    refine kk H' _ ⟨by rw [e2]; exact hz, ?_, ?_, hS.put e2 e3 (hD.2 _ _ hix)⟩
    · rw [← cz_sx (X := X) hY]
      exact hP.set hD hix ⟨_, hc, t_OB.to (V := updV (vp_V fs) k v) ⟨_, e1, q2, q3, t_set q4 hap hk v⟩ (fun j _ => vp_updV_set hl v j)⟩ e3
    · rw [← cz_sx (X := X) hY]
      exact hD.set hix
  · rw [if_pos hfin] at hlay
    have hcf : m.cls = cf := by
      obtain ⟨_, _, c', _, _, _, -, -, hf', -, -, -, hown2, -⟩ := Cond.laysFinal_spec hlay
      have e1 : c' = cf := by have := hi.symm.trans hf'; simp at this; exact this.1.symm
      rw [hdecl] at hown2
      rw [← e1]; exact Option.some.inj (hown1.symm.trans hown2)
    have h6 := u_fits hfc hkC hkind (Or.inr hlay) hi hd hn hfit
    refine W.putFinK hexec hb hown1 (hts _ hlink) hi2 hst hcf (hname.trans hin2) (by rw [q2]; exact h6) q1 q3 (by rw [hsl]; exact k2_hasslot (q4 k hk)) rfl rfl hdg fun H' e1 e2 e3 => ?_
    rw [hsl] at e1 ⊢
    refine kk H' _ ⟨by rw [e2]; exact hz, ?_, ?_, hS.put e2 e3 (hD.2 _ _ hix)⟩
    · rw [← cz_sx (X := X) hY]
      exact hP.set hD hix ⟨_, hc, t_OB.to (V := updV (vp_V fs) k v) ⟨_, e1, q2, q3, t_set q4 hap hk v⟩ (fun j _ => vp_updV_set hl v j)⟩ e3
    · rw [← cz_sx (X := X) hY]
      exact hD.set hix
end CZ
