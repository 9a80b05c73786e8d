/-! MAKING: rows that also tell where the new cell lies (the heap's end) -/
section TMNEW
variable {p : Program} {l : Launch} {e : Env} {R : Room} {s : State} {m : MethodId} {args : Array Value} {below : List Frame} {meth : Method} {c0 : Code} {H0 H : Heap} {locs : List Loc} {cells slots : Nat} {Q : State → Prop}
variable {cc : ByteArray} {pc : Nat} {ls : Array Slot} {rest : List Value} {D : va_G} {cl : List vw_C} {tys : List (ClassId × FieldType)} {ws : va_W} {A : Nat → Prop}
/-- a world with one more cell at the heap's end -/
theorem tm_more {h : Nat} {H1 : Heap} {x : va_E} (hh : H.size = h) (hP : va_P D cl ws H) (hD : va_D A ws) (hS : va_S A H0 H locs) (hA : ∀ q, H0.size ≤ q → A q) (hz : H1.size = h + 1) (ho : ∀ q, q < h → H1[q]? = H[q]?) (hx : va_P D cl [(h, x)] H1) :
    va_P D cl (ws ++ [(h, x)]) H1 ∧ va_D A (ws ++ [(h, x)]) ∧ va_S A H0 H1 locs := by
  subst hh
  have hold : ∀ (k : Nat) (y : Nat × va_E), ws[k]? = some y → H1[y.1]? = H[y.1]? := fun k y hy => ho y.1 (hP k y hy).lt
  exact ⟨(hP.kept hold).app hx, hD.push hP rfl (hA _ hS.1), ⟨by have := hS.1; omega, fun q h1 h2 => (ho q (Nat.lt_of_lt_of_le h1 hS.1)).trans (hS.2.1 q h1 h2), hS.2.2⟩⟩
theorem tm_newo (hexec : p.tables.exec = Jvm.exec) (hb : c0.code = cc) {own C : String} {T : u_T} {N ci index h : Nat} {Ts : List Cond} (hts : ∀ w ∈ Ts, w.before args s = true) (hin : ∀ w ∈ u_ws C T N, w ∈ Ts) (ty : Nat → FieldType) (hty : ∀ k, k < N → parseFieldDescriptor (T k).2.2.1 = some (ty k)) (hown : s.vm.findClass own = some m.cls) (hcl : (Cond.classLink own index C).before args s = true) (hinst : (Cond.instantiable C N).before args s = true) (hini : (Cond.initialized C).before args s = true)
    (hK : va_K D cl tys s) (hP : va_P D cl ws H) (hD : va_D A ws) (hS : va_S A H0 H locs) (hA : ∀ q, H0.size ≤ q → A q) (hc : cl[ci]? = some (C, T, N)) {fs : List Value} (hfs : ∀ j, j < N → defaultValue (ty j) = vp_V fs j) (hcells : cells + 1 ≤ R.cells) (hslots : slots + N ≤ R.slots) (hdg : decode cc pc = .ok (.new index, 3)) (hh : H.size = h)
    (kk : ∀ (H1 : Heap), H1.size = h + 1 → va_P D cl (ws ++ [(h, .inr (ci, fs))]) H1 → va_D A (ws ++ [(h, .inr (ci, fs))]) → va_S A H0 H1 locs →
      W p l e R s m args below meth c0 H1 locs (cells + 1) (slots + N) Q (F0 m (pc + 3) ls (.ref h :: rest))) : W p l e R s m args below meth c0 H locs cells slots Q (F0 m pc ls rest) := by
  have hk0 := hK.1 ci _ hc
  refine W.newcK hexec hb hown hcl hinst hini rfl hdg hcells hslots hk0.2.1 rfl (fun H1 kC hkC e1 z1 o1 => ?_)
  have hz : H1.size = h + 1 := by rw [← hh]; exact z1
  have hone : va_P D cl [(h, .inr (ci, fs))] H1 := by
    intro k x hx
    have h0 : k < 1 := (List.getElem?_eq_some_iff.mp hx).1
    have hk : k = 0 := by omega
    subst hk
    cases hx
    subst hh
    exact ⟨_, hc, (u_born ty hts hin hk0 hkC e1 hty).to hfs⟩
  obtain ⟨q1, q2, q3⟩ := tm_more (H1 := H1) hh hP hD hS hA hz (fun q hq => o1 q (by rw [hh]; exact hq)) hone
  rw [hh]
  exact kk H1 hz q1 q2 q3
end TMNEW
