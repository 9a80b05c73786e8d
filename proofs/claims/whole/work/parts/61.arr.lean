/-! MAKING: arrays of numbers, of references -/
section TMNEW2
variable {p : Program} {l : Launch} {e : Env} {R : Room} {s : State} {m : MethodId} {args : Array Value} {below : List Frame} {meth : Method} {c0 : Code} {H0 H : Heap} {locs : List Loc} {cells slots : Nat} {Q : State → Prop}
variable {cc : ByteArray} {pc : Nat} {ls : Array Slot} {rest : List Value} {D : va_G} {cl : List vw_C} {tys : List (ClassId × FieldType)} {ws : va_W} {A : Nat → Prop}
theorem tm_newi (hexec : p.tables.exec = Jvm.exec) (hb : c0.code = cc) {atype : ArrayType} {cA0 : ClassId} (harr : (Cond.arrayClass (newarray.typeOf atype)).before args s = true) (hnm : s.vm.findClass ("[" ++ (newarray.typeOf atype).toString) = some cA0) (hP : va_P D cl ws H) (hD : va_D A ws) (hS : va_S A H0 H locs) (hA : ∀ q, H0.size ≤ q → A q)
    {n : Int32} {N' h : Nat} {a0 : vp_A} (ha : vp_cell cA0 a0 = arrV cA0 N' (fun _ => defaultValue (newarray.typeOf atype))) (hn : ¬ n < 0) (hN : n.toNatClampNeg = N') (hbytes : N' * componentBytes (newarray.typeOf atype) ≤ 536870912) (hcells : cells + 1 ≤ R.cells) (hslots : slots + N' ≤ R.slots) (hdg : decode cc pc = .ok (.newarray atype, 2)) (hh : H.size = h)
    (kk : ∀ (H1 : Heap), H1.size = h + 1 → va_P D cl (ws ++ [(h, .inl (cA0, a0))]) H1 → va_D A (ws ++ [(h, .inl (cA0, a0))]) → va_S A H0 H1 locs →
      W p l e R s m args below meth c0 H1 locs (cells + 1) (slots + N') Q (F0 m (pc + 2) ls (.ref h :: rest))) : W p l e R s m args below meth c0 H locs cells slots Q (F0 m pc ls (.int n :: rest)) := by
  refine va_newaK hexec hb harr rfl hdg rfl hn hN hbytes hcells hslots hh (fun H1 cA e1 z1 o1 _ hNm => ?_)
  have hcA : cA = cA0 := Option.some.inj (hNm.symm.trans hnm)
  subst hcA
  have hone : va_P D cl [(h, .inl (cA, a0))] H1 := by
    intro k x hx
    have h0 : k < 1 := (List.getElem?_eq_some_iff.mp hx).1
    have hk : k = 0 := by omega
    subst hk
    cases hx
    show H1[h]? = some (vp_cell cA a0)
    rw [ha]
    exact e1
  obtain ⟨q1, q2, q3⟩ := tm_more (H1 := H1) hh hP hD hS hA z1 (fun q hq => o1 q hq) hone
  exact kk H1 z1 q1 q2 q3
end TMNEW2
section TMNEW3
variable {p : Program} {l : Launch} {e : Env} {R : Room} {s : State} {m : MethodId} {args : Array Value} {below : List Frame} {meth : Method} {c : Code} {H0 H : Heap} {locs : List Loc} {cells slots : Nat} {Q : State → Prop}
variable {cc : ByteArray} {pc : Nat} {ls : Array Slot} {rest : List Value} {D : va_G} {cl : List vw_C} {tys : List (ClassId × FieldType)} {ws : va_W} {A : Nat → Prop}
theorem tm_newr (hexec : p.tables.exec = Jvm.exec) (hb : c.code = cc) {own C : String} {index t0 h : Nat} {cA0 : ClassId} (hown : s.vm.findClass own = some m.cls) (hclink : (Cond.classLink own index C).before args s = true) (hover : va_AO C s) (hK : va_K D cl tys s) (ht : tys[t0]? = some (cA0, .object C)) (hP : va_P D cl ws H) (hD : va_D A ws) (hS : va_S A H0 H locs) (hA : ∀ q, H0.size ≤ q → A q)
    {n : Int32} {N' : Nat} (hn : ¬ n < 0) (hN : n.toNatClampNeg = N') (hbytes : N' * 4 ≤ 536870912) (hcells : cells + 1 ≤ R.cells) (hslots : slots + N' ≤ R.slots) (hdg : decode cc pc = .ok (.anewarray index, 3)) (hh : H.size = h)
    (kk : ∀ (H1 : Heap), H1.size = h + 1 → va_P D cl (ws ++ [(h, .inl (cA0, N', .inr (.inr (.inr (.inr (fun _ => none))))))]) H1 → va_D A (ws ++ [(h, .inl (cA0, N', .inr (.inr (.inr (.inr (fun _ => none))))))]) → va_S A H0 H1 locs →
      W p l e R s m args below meth c H1 locs (cells + 1) (slots + N') Q (F0 m (pc + 3) ls (.ref h :: rest))) : W p l e R s m args below meth c H locs cells slots Q (F0 m pc ls (.int n :: rest)) := by
  subst hN
  refine W.anew hexec hb hown hclink (va_AO.use hover) rfl hdg rfl hn hbytes hcells hslots (fun cA kA comp f1 f2 f3 f4 => ?_)
  have hcA : cA = cA0 := by
    obtain ⟨-, -, -, -, -, g4⟩ := (hK.2 t0 _ ht).2
    exact Option.some.inj (f1.symm.trans g4)
  subst hcA
  subst hh
  generalize hpush : H.push ({ cls := cA, slots := Array.replicate n.toNatClampNeg .null, vm := .none } : Cell) = H1
  have hz : H1.size = H.size + 1 := by rw [← hpush, Array.size_push]
  have hone : va_P D cl [(H.size, .inl (cA, n.toNatClampNeg, .inr (.inr (.inr (.inr (fun _ => none))))))] H1 := by
    intro k x hx
    have h0 : k < 1 := (List.getElem?_eq_some_iff.mp hx).1
    have hk : k = 0 := by omega
    subst hk
    cases hx
    show H1[H.size]? = some (vp_cell _ _)
    rw [vp_cell_q, ← hpush, Array.getElem?_push_size]
    exact congrArg some (arrV_new ..)
  obtain ⟨q1, q2, q3⟩ := tm_more (H1 := H1) rfl hP hD hS hA hz (fun q hq => by rw [← hpush, Array.getElem?_push, if_neg (Nat.ne_of_lt hq)]) hone
  exact kk H1 hz q1 q2 q3
end TMNEW3
