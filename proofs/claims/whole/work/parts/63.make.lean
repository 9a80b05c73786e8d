/-! MAKING: stores, new cells and constructors' calls over worlds that grow -/
section CZM
variable {p : Program} {l : Launch} {e : Env} {R : Room} {s : State} {m : MethodId} {args : Array Value} {below : List Frame} {meth : Method} {c : Code} {H : Heap} {locs : List Loc} {cells slots : Nat} {Q : State → Prop}
variable {cc : ByteArray} {pc : Nat} {ls : Array Slot} {rest : List Value} {g : tm_G} {A : Nat → Prop} {X Y Y' : va_W} {h : Nat} {own : String} {Ts : List Cond} {nL : Nat} {y : MethodName} {a : Nat}
theorem cz_new (C0 : cz_C p m c cc nL s args Ts own meth y g A) (hH : cz_H g A (X ++ Y) h s.heap H locs) {C : String} {T : u_T} {N ci index : Nat} (hin : ∀ w ∈ u_ws C T N, w ∈ Ts) (ty : Nat → FieldType) (hty : ∀ k, k < N → parseFieldDescriptor (T k).2.2.1 = some (ty k)) (hcl : Cond.classLink own index C ∈ Ts) (hinst : Cond.instantiable C N ∈ Ts) (hini : Cond.initialized C ∈ Ts) (hc : vwCl[ci]? = some (C, T, N)) {fs : List Value} (hfs : ∀ j, j < N → defaultValue (ty j) = vp_V fs j) (hcells : cells + 1 ≤ R.cells) (hslots : slots + N ≤ R.slots) (hdg : decode cc pc = .ok (.new index, 3)) (hY : Y ++ [(h, .inr (ci, fs))] = Y')
    (kk : ∀ (H1 : Heap), cz_H g A (X ++ Y') (h + 1) s.heap H1 locs → W p l e R s m args below meth c H1 locs (cells + 1) (slots + N) Q (F0 m (pc + 3) ls (.ref h :: rest))) : W p l e R s m args below meth c H locs cells slots Q (F0 m pc ls rest) := by
  obtain ⟨⟨hexec, hb, -, hown1, hts⟩, -, -, hK, -, -, hA, -⟩ := id C0
  obtain ⟨hz, hP, hD, hS⟩ := hH
  refine tm_newo hexec hb hts hin ty hty hown1 (hts _ hcl) (hts _ hinst) (hts _ hini) hK hP hD hS hA hc hfs hcells hslots hdg hz (fun H1 z1 hP1 hD1 hS1 => kk H1 ?_)
  rw [← hY, ← List.append_assoc]
  exact ⟨z1, hP1, hD1, hS1⟩
theorem cz_newi (C0 : cz_C p m c cc nL s args Ts own meth y g A) (hH : cz_H g A (X ++ Y) h s.heap H locs) (harr : Cond.arrayClass .int ∈ Ts) {n : Int32} {N' : Nat} (hn : ¬ n < 0) (hN : n.toNatClampNeg = N') (hbytes : N' * componentBytes (newarray.typeOf .int) ≤ 536870912) (hcells : cells + 1 ≤ R.cells) (hslots : slots + N' ≤ R.slots) (hdg : decode cc pc = .ok (.newarray .int, 2)) (hY : Y ++ [(h, .inl (g.2.1 0, N', .inl (fun _ => 0)))] = Y')
    (kk : ∀ (H1 : Heap), cz_H g A (X ++ Y') (h + 1) s.heap H1 locs → W p l e R s m args below meth c H1 locs (cells + 1) (slots + N') Q (F0 m (pc + 2) ls (.ref h :: rest))) : W p l e R s m args below meth c H locs cells slots Q (F0 m pc ls (.int n :: rest)) := by
  obtain ⟨⟨hexec, hb, -, hown1, hts⟩, -, -, hK, -, -, hA, -⟩ := id C0
  obtain ⟨hz, hP, hD, hS⟩ := hH
  have hnm : s.vm.findClass ("[" ++ (newarray.typeOf .int).toString) = some (g.2.1 0) := (hK.2 0 (g.2.1 0, .int) rfl).2
  refine tm_newi (atype := .int) hexec hb (hts _ harr) hnm hP hD hS hA (a0 := (N', .inl (fun _ => 0))) rfl hn hN hbytes hcells hslots hdg hz (fun H1 z1 hP1 hD1 hS1 => kk H1 ?_)
  rw [← hY, ← List.append_assoc]
  exact ⟨z1, hP1, hD1, hS1⟩
theorem cz_newz (C0 : cz_C p m c cc nL s args Ts own meth y g A) (hH : cz_H g A (X ++ Y) h s.heap H locs) (harr : Cond.arrayClass .boolean ∈ Ts) {n : Int32} {N' : Nat} (hn : ¬ n < 0) (hN : n.toNatClampNeg = N') (hbytes : N' * componentBytes (newarray.typeOf .boolean) ≤ 536870912) (hcells : cells + 1 ≤ R.cells) (hslots : slots + N' ≤ R.slots) (hdg : decode cc pc = .ok (.newarray .boolean, 2)) (hY : Y ++ [(h, .inl (g.2.1 1, N', .inl (fun _ => 0)))] = Y')
    (kk : ∀ (H1 : Heap), cz_H g A (X ++ Y') (h + 1) s.heap H1 locs → W p l e R s m args below meth c H1 locs (cells + 1) (slots + N') Q (F0 m (pc + 2) ls (.ref h :: rest))) : W p l e R s m args below meth c H locs cells slots Q (F0 m pc ls (.int n :: rest)) := by
  obtain ⟨⟨hexec, hb, -, hown1, hts⟩, -, -, hK, -, -, hA, -⟩ := id C0
  obtain ⟨hz, hP, hD, hS⟩ := hH
  have hnm : s.vm.findClass ("[" ++ (newarray.typeOf .boolean).toString) = some (g.2.1 1) := (hK.2 1 (g.2.1 1, .boolean) rfl).2
  refine tm_newi (atype := .boolean) hexec hb (hts _ harr) hnm hP hD hS hA (a0 := (N', .inl (fun _ => 0))) rfl hn hN hbytes hcells hslots hdg hz (fun H1 z1 hP1 hD1 hS1 => kk H1 ?_)
  rw [← hY, ← List.append_assoc]
  exact ⟨z1, hP1, hD1, hS1⟩
theorem cz_newr (C0 : cz_C p m c cc nL s args Ts own meth y g A) (hH : cz_H g A (X ++ Y) h s.heap H locs) {C : String} {index t0 : Nat} {cA0 : ClassId} (hcl : Cond.classLink own index C ∈ Ts) (hover : C ∈ cz_ao) (ht : (tm_tys g)[t0]? = some (cA0, .object C)) {n : Int32} {N' : Nat} (hn : ¬ n < 0) (hN : n.toNatClampNeg = N') (hbytes : N' * 4 ≤ 536870912) (hcells : cells + 1 ≤ R.cells) (hslots : slots + N' ≤ R.slots) (hdg : decode cc pc = .ok (.anewarray index, 3)) (hY : Y ++ [(h, .inl (cA0, N', .inr (.inr (.inr (.inr (fun _ => none))))))] = Y')
    (kk : ∀ (H1 : Heap), cz_H g A (X ++ Y') (h + 1) s.heap H1 locs → W p l e R s m args below meth c H1 locs (cells + 1) (slots + N') Q (F0 m (pc + 3) ls (.ref h :: rest))) : W p l e R s m args below meth c H locs cells slots Q (F0 m pc ls (.int n :: rest)) := by
  obtain ⟨⟨hexec, hb, -, hown1, hts⟩, -, -, hK, -, -, hA, hO⟩ := id C0
  obtain ⟨hz, hP, hD, hS⟩ := hH
  refine tm_newr hexec hb hown1 (hts _ hcl) (hO _ hover) hK ht hP hD hS hA hn hN hbytes hcells hslots hdg hz (fun H1 z1 hP1 hD1 hS1 => kk H1 ?_)
  rw [← hY, ← List.append_assoc]
  exact ⟨z1, hP1, hD1, hS1⟩
theorem cz_ast (C0 : cz_C p m c cc nL s args Ts own meth y g A) (hH : cz_H g A (X ++ Y) h s.heap H locs) (q0 t0 qk ci : Nat) {cA : ClassId} {r : vw_C} {n v : Nat} {vs : List Value} {f : Nat → Option Nat} {E : String} (ha : (X ++ Y)[q0]? = some (a, .inl (cA, n, .inr (.inr (.inr (.inr f)))))) (ht : (tm_tys g)[t0]? = some (cA, .object E)) (hv : (X ++ Y)[qk]? = some (v, .inr (ci, vs))) (hc : vwCl[ci]? = some r) (hasg : ∀ comp c0 : ClassId, s.vm.findClass E = some comp → s.vm.findClass r.1 = some c0 → s.vm.assignable c0 comp = true) {i : Int32} (hin : tm_vin i n = true) (hdg : decode cc pc = .ok (.aastore, 1)) (hY : (X ++ Y).set q0 (a, .inl (cA, n, .inr (.inr (.inr (.inr (va_up f i.toNatClampNeg (some v))))))) = X ++ Y')
    (kk : ∀ (H1 : Heap) (locs1 : List Loc), cz_H g A (X ++ Y') h s.heap H1 locs1 → W p l e R s m args below meth c H1 locs1 cells slots Q (F0 m (pc + 1) ls rest)) : W p l e R s m args below meth c H locs cells slots Q (F0 m pc ls (.ref v :: .int i :: .ref a :: rest)) := by
  obtain ⟨⟨hexec, hb, -, hown1, hts⟩, -, -, hK, -, -, hA, -⟩ := id C0
  obtain ⟨hz, hP, hD, hS⟩ := hH
  have hin := tm_vin_in hin
  have hlt : i.toNatClampNeg < n := Nat.not_le.mp fun q => hin (Or.inr q)
  have h0 : ¬ i < 0 := fun q => hin (Or.inl q)
  obtain ⟨r', hr', cellV, g1, g2, g3, -⟩ := hP _ _ hv
  have hcls := (hK.1 ci r hc).2
  obtain ⟨kA, comp, k1, k2, k3, -⟩ := (hK.2 t0 _ ht).2
  obtain ⟨kE, hkE, -⟩ := Vm.findClass_spec k3
  obtain ⟨kC, hkC, -⟩ := hcls.2
  refine W.aast hexec hb (hP _ _ ha) (fun q h => by cases h) (fun h => by cases h) k1 k2 rfl hkE ⟨h0, by show _ < (arrV _ _ _).slots.size; rw [arrV_size]; exact hlt⟩ g1 (fun q h => by rw [g3] at h; cases h) (by rw [g2]; exact hkC) (by rw [g2]; exact hasg _ _ k3 hcls.1) rfl rfl hdg fun H1 e z oq => ?_
  refine kk H1 _ ⟨by rw [z]; exact hz, ?_, ?_, hS.put z oq (hD.2 _ _ ha)⟩
  · rw [← hY]
    refine hP.set hD ha ?_ oq
    show H1[a]? = some (vp_cell _ _)
    rw [e]
    rw [vp_cell_q, vp_cell_q, arrV_store]
    congr 2
    funext q
    by_cases hq : q = i.toNatClampNeg
    · subst hq
      simp [updV, va_up, va_rf]
    · simp [updV, va_up, hq]
  · rw [← hY]
    exact hD.set ha
theorem cz_asgE (C0 : cz_C p m c cc nL s args Ts own meth y g A) {ci : Nat} {r : vw_C} (hc : vwCl[ci]? = some r) : ∀ comp c0 : ClassId, s.vm.findClass r.1 = some comp → s.vm.findClass r.1 = some c0 → s.vm.assignable c0 comp = true := by
  obtain ⟨-, -, -, hK, -⟩ := id C0
  have hcls := (hK.1 ci r hc).2
  intro comp c0 h1 h2
  cases hcls.1.symm.trans h1
  cases hcls.1.symm.trans h2
  exact va_assign hcls
theorem cz_asgC (C0 : cz_C p m c cc nL s args Ts own meth y g A) {E C : String} (hc : (C, E) ∈ tm_cst) : ∀ comp c0 : ClassId, s.vm.findClass E = some comp → s.vm.findClass C = some c0 → s.vm.assignable c0 comp = true := by
  obtain ⟨-, -, -, hK, hG, -⟩ := id C0
  intro comp c0 h1 h2
  obtain ⟨c3, t3, w1, w2, w3⟩ := Cond.castable_spec (va_Nw.use (A := args) rfl (hG.2.2.2.2.1 _ hc))
  cases w1.symm.trans h2
  cases w2.symm.trans h1
  exact w3
theorem cz_iast (C0 : cz_C p m c cc nL s args Ts own meth y g A) (hH : cz_H g A (X ++ Y) h s.heap H locs) (q0 : Nat) {n : Nat} {f : Nat → Int32} (ha : Y[q0]? = some (a, .inl (g.2.1 0, n, .inl f))) {i : Int32} {x : Int32} (hin : tm_vin i n = true) (hdg : decode cc pc = .ok (.iastore, 1)) (hY : Y.set q0 (a, .inl (g.2.1 0, n, .inl (upd f i.toNatClampNeg x))) = Y')
    (kk : ∀ (H1 : Heap) (locs1 : List Loc), cz_H g A (X ++ Y') h s.heap H1 locs1 → W p l e R s m args below meth c H1 locs1 cells slots Q (F0 m (pc + 1) ls rest)) : W p l e R s m args below meth c H locs cells slots Q (F0 m pc ls (.int x :: .int i :: .ref a :: rest)) := by
  obtain ⟨⟨hexec, hb, -, hown1, hts⟩, -, -, hK, -, -, hA, -⟩ := id C0
  obtain ⟨hz, hP, hD, hS⟩ := hH
  have hin := tm_vin_in hin
  have hix := cz_ix (X := X) ha
  refine W.iast hexec hb (hP _ _ hix) ((hK.2 0 _ rfl).1 n (fun j => .int (f j))) (fun q => by cases q) (by show ¬ (i < 0 ∨ (arrV _ _ _).slots.size ≤ _); rw [arrV_size]; exact hin) rfl rfl hdg fun H1 e z oq => ?_
  refine kk H1 _ ⟨by rw [z]; exact hz, ?_, ?_, hS.put z oq (hD.2 _ _ hix)⟩
  · rw [← cz_sx (X := X) hY]
    refine hP.set hD hix ?_ oq
    show H1[a]? = some (vp_cell _ _)
    rw [e]
    rw [vp_cell_i, vp_cell_i, arrV_store]
    congr 2
    funext q
    by_cases hq : q = i.toNatClampNeg
    · subst hq
      simp [updV, upd]
    · simp [updV, upd, hq]
  · rw [← cz_sx (X := X) hY]
    exact hD.set hix
variable {y2 : MethodName} {ws2 : List Cond} {rm : Room} {mc ms n index maxL h2 : Nat} {bytes : ByteArray} {As : List Value} {w1 w2 : va_W} {b : Nat}
theorem cz_back {st0 : List Value} {av : Array Value} (hr : va_Run p l e R s m args below meth c H locs cells slots mc ms (F0 m pc ls st0) rest (cz_Q g A w2 h2 av) A) (hS : va_S A s.heap H locs) (hw : w2 = X ++ Y')
    (kk : ∀ (H1 : Heap) (locs1 : List Loc), cz_H g A (X ++ Y') h2 s.heap H1 locs1 → W p l e R s m args below meth c H1 locs1 (cells + mc) (slots + ms) Q (F0 m (pc + 3) ls rest)) : W p l e R s m args below meth c H locs cells slots Q (F0 m pc ls st0) := by
  refine va_callv hr hS (fun q _ h => h) (fun q h => h) (fun u t H1 locs1 ht _ _ hB _ _ hS1 => kk H1 locs1 ?_)
  obtain ⟨b1, b2, b3, -⟩ := hB
  subst hw
  exact ⟨by rw [← ht]; exact b1, by rw [← ht]; exact b2, b3, hS1⟩
theorem cz_ini (C0 : cz_C p m c cc nL s args Ts own meth y g A) (hH : cz_H g A (X ++ Y) h s.heap H locs) (hM : Met l y2 ws2 rm (va_Pc (.ref b :: As) (cz_Z g A w1 h)) (cz_Q g A w2 h2) mc ms A) (hw1 : X ++ Y = w1) (hw2 : w2 = X ++ Y') (cw : CallB R s args own index y2 bytes maxL none ws2 rm mc ms n ∧ y2.name = "<init>" ∧ (Cond.instanceMethod y2).before args s = true) (hn : As.length = n) (hl : ls.size = nL) (hst : 2 * (F0 m pc ls (As.reverse ++ .ref b :: rest)).monitorRoom + (rest.map fun v => v.category).sum ≤ 8) (hdg : decode cc pc = .ok (.invokespecial index, 3)) (hf : cells + mc ≤ R.cells ∧ slots + ms ≤ R.slots)
    (kk : ∀ (H1 : Heap) (locs1 : List Loc), cz_H g A (X ++ Y') h2 s.heap H1 locs1 → W p l e R s m args below meth c H1 locs1 (cells + mc) (slots + ms) Q (F0 m (pc + 3) ls rest)) : W p l e R s m args below meth c H locs cells slots Q (F0 m pc ls (As.reverse ++ .ref b :: rest)) := by
  refine cz_back (va_runI (As := As) (rest := rest) C0.1 hM cw ⟨cz_Z.blind _, fun U hU hW => ⟨rfl, ?_⟩⟩ rfl hn hl rfl hst hdg hf) hH.2.2.2 hw2 kk
  rw [← hw1]
  exact cz_Z.at C0 hH hU hW
theorem cz_iniN {host : String} (C0 : cz_C p m c cc nL s args Ts own meth y g A) (hH : cz_H g A (X ++ Y) h s.heap H locs) (hM : Met l y2 ws2 rm (va_Pc (.ref b :: As) (cz_Z g A w1 h)) (cz_Q g A w2 h2) mc ms A) (hw1 : X ++ Y = w1) (hw2 : w2 = X ++ Y') (cw : va_CN R s args own index y2 host bytes maxL none ws2 rm mc ms n ∧ y2.name = "<init>" ∧ (Cond.instanceMethod y2).before args s = true) (hn : As.length = n) (hl : ls.size = nL) (hst : 2 * (F0 m pc ls (As.reverse ++ .ref b :: rest)).monitorRoom + (rest.map fun v => v.category).sum ≤ 8) (hdg : decode cc pc = .ok (.invokespecial index, 3)) (hf : cells + mc ≤ R.cells ∧ slots + ms ≤ R.slots)
    (kk : ∀ (H1 : Heap) (locs1 : List Loc), cz_H g A (X ++ Y') h2 s.heap H1 locs1 → W p l e R s m args below meth c H1 locs1 (cells + mc) (slots + ms) Q (F0 m (pc + 3) ls rest)) : W p l e R s m args below meth c H locs cells slots Q (F0 m pc ls (As.reverse ++ .ref b :: rest)) := by
  refine cz_back (va_runIN (As := As) (rest := rest) C0.1 hM cw ⟨cz_Z.blind _, fun U hU hW => ⟨rfl, ?_⟩⟩ rfl hn hl rfl hst hdg hf) hH.2.2.2 hw2 kk
  rw [← hw1]
  exact cz_Z.at C0 hH hU hW
theorem cz_vir {C : String} {ci : Nat} {q : vw_C} {vs : List Value} (C0 : cz_C p m c cc nL s args Ts own meth y g A) (hH : cz_H g A (X ++ Y) h s.heap H locs) (hM : Met l y2 ws2 rm (va_Pc (.ref b :: As) (cz_Z g A w1 h)) (cz_Q g A w2 h2) mc ms A) (hw1 : X ++ Y = w1) (hw2 : w2 = X ++ Y') (cw : CallW R s args own C index y2 bytes maxL none ws2 rm mc ms n) (i : Nat) (hi : Y[i]? = some (b, .inr (ci, vs))) (hc : vwCl[ci]? = some q) (hq : q.1 = C) (hn : As.length = n) (hl : ls.size = nL) (hst : 2 * (F0 m pc ls (As.reverse ++ .ref b :: rest)).monitorRoom + (rest.map fun v => v.category).sum ≤ 8) (hdg : decode cc pc = .ok (.invokevirtual index, 3)) (hf : cells + mc ≤ R.cells ∧ slots + ms ≤ R.slots)
    (kk : ∀ (H1 : Heap) (locs1 : List Loc), cz_H g A (X ++ Y') h2 s.heap H1 locs1 → W p l e R s m args below meth c H1 locs1 (cells + mc) (slots + ms) Q (F0 m (pc + 3) ls rest)) : W p l e R s m args below meth c H locs cells slots Q (F0 m pc ls (As.reverse ++ .ref b :: rest)) := by
  subst hq
  have hK := C0.2.2.2.1
  refine cz_back (va_runV (As := As) (rest := rest) C0.1 hM cw ⟨cz_Z.blind _, va_recv hK hH.2.1 hc (cz_ix (X := X) hi), fun U hU hW => ⟨rfl, ?_⟩⟩ rfl hn hl rfl hst hdg hf) hH.2.2.2 hw2 kk
  rw [← hw1]
  exact cz_Z.at C0 hH hU hW
end CZM
