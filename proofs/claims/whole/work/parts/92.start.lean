/-! THE LAW: the classes, the arrays' classes, the tables' rows and the text at its start -/

set_option maxHeartbeats 4000000 in
set_option maxRecDepth 100000 in
theorem lw_known {s : State} {b : Nat} (hts : ∀ w ∈ lw_tbl, w.before #[Value.ref b] s = true) : ∃ D : va_G, ∀ (k : Nat) (q : vw_C), vwCl[k]? = some q → u_Kn s q.1 q.2.1 q.2.2 (D.1 k) (D.2 k) := by
  have hi : ∀ (C : String) (n : Nat), (C, n) ∈ [(RX1, 12), (RX2, 0), (RX3, 0), (RX4, 0), (RX5, 0), (RX6, 6), (RX7, 8), (RX8, 4), (RX9, 15), (RX10, 23)] → (Cond.instantiable C n).before #[Value.ref b] s = true := fun C n h => hts _ (lw_wn (C, n) h)
  obtain ⟨c0, i0, h0⟩ := u_known (C := RX1) (T := TX1) (N := 12) (n := 12) hts inX1 (hi _ _ (List.mem_of_getElem? (i := 0) rfl))
  obtain ⟨c1, i1, h1⟩ := u_known (C := RX2) (T := TX2) (N := 0) (n := 0) hts inX2 (hi _ _ (List.mem_of_getElem? (i := 1) rfl))
  obtain ⟨c2, i2, h2⟩ := u_known (C := RX3) (T := TX3) (N := 0) (n := 0) hts inX3 (hi _ _ (List.mem_of_getElem? (i := 2) rfl))
  obtain ⟨c3, i3, h3⟩ := u_known (C := RX4) (T := TX4) (N := 0) (n := 0) hts inX4 (hi _ _ (List.mem_of_getElem? (i := 3) rfl))
  obtain ⟨c4, i4, h4⟩ := u_known (C := RX5) (T := TX5) (N := 0) (n := 0) hts inX5 (hi _ _ (List.mem_of_getElem? (i := 4) rfl))
  obtain ⟨c5, i5, h5⟩ := u_known (C := RX6) (T := TX6) (N := 6) (n := 6) hts inX6 (hi _ _ (List.mem_of_getElem? (i := 5) rfl))
  obtain ⟨c6, i6, h6⟩ := u_known (C := RX7) (T := TX7) (N := 8) (n := 8) hts inX7 (hi _ _ (List.mem_of_getElem? (i := 6) rfl))
  obtain ⟨c7, i7, h7⟩ := u_known (C := RX8) (T := TX8) (N := 4) (n := 4) hts inX8 (hi _ _ (List.mem_of_getElem? (i := 7) rfl))
  obtain ⟨c8, i8, h8⟩ := u_known (C := RX9) (T := TX9) (N := 15) (n := 15) hts inX9 (hi _ _ (List.mem_of_getElem? (i := 8) rfl))
  obtain ⟨c9, i9, h9⟩ := u_known (C := RX10) (T := TX10) (N := 23) (n := 23) hts inX10 (hi _ _ (List.mem_of_getElem? (i := 9) rfl))
  refine ⟨(fun k => match k with | 0 => c0 | 1 => c1 | 2 => c2 | 3 => c3 | 4 => c4 | 5 => c5 | 6 => c6 | 7 => c7 | 8 => c8 | _ => c9, fun k => match k with | 0 => i0 | 1 => i1 | 2 => i2 | 3 => i3 | 4 => i4 | 5 => i5 | 6 => i6 | 7 => i7 | 8 => i8 | _ => i9), ?_⟩
  intro k q hq
  match k, hq with
  | 0, hq => cases hq; exact h0
  | 1, hq => cases hq; exact h1
  | 2, hq => cases hq; exact h2
  | 3, hq => cases hq; exact h3
  | 4, hq => cases hq; exact h4
  | 5, hq => cases hq; exact h5
  | 6, hq => cases hq; exact h6
  | 7, hq => cases hq; exact h7
  | 8, hq => cases hq; exact h8
  | 9, hq => cases hq; exact h9
  | k + 10, hq => exact absurd hq (by simp [vwCl])
theorem lw_arrP {s : State} {b : Nat} {ty : FieldType} (h : (Cond.arrayClass ty).before #[Value.ref b] s = true) : ∃ cA : ClassId, ArrOfT s cA ty ∧ s.vm.findClass ("[" ++ ty.toString) = some cA := by
  obtain ⟨cA, kA, comp, h1, h2, h3⟩ := Cond.arrayClass_spec h
  exact ⟨cA, fun n z => ⟨fun k h => (by cases h), kA, h2, comp, h3⟩, h1⟩
theorem lw_arrO {s : State} {b : Nat} {C : String} (h : (Cond.arrayOver (.object C)).before #[Value.ref b] s = true) : ∃ cA : ClassId, ArrOfT s cA (.object C) ∧ va_RA s cA (.object C) := by
  obtain ⟨comp, cA, kA, h1, -, h3, h4, h5⟩ := Cond.arrayOver_spec h
  exact ⟨cA, fun n z => ⟨fun k h => (by cases h), kA, h3, comp, h4⟩, kA, comp, h3, h4, h1, h5⟩
set_option maxHeartbeats 4000000 in
set_option maxRecDepth 100000 in
theorem lw_start {p : Program} {s : State} {m : MethodId} {meth : Method} {c : Code} {b L : Nat} {xs : Nat → Int32} (C0 : lw_At p s m meth c b L xs) : ∃ g : tm_G, g.2.2 = s.heap.size ∧ va_K g.1 vwCl (tm_tys g) s ∧ tm_S g (fun q : Nat => s.heap.size ≤ q) s s.heap ∧ ∀ C ∈ cz_ao, va_AO C s := by
  obtain ⟨-, -, -, -, -, hts, -, -, -, hgv⟩ := C0
  have hq : ∀ w ∈ lw_fl, w.before #[Value.ref b] s = true := flat_of_before _ hgv
  have hA : ∀ a : Nat, a < s.heap.size → ¬ (fun q : Nat => s.heap.size ≤ q) a := fun a h => Nat.not_le.mpr h
  have hO : ∀ C ∈ cz_ao, va_AO C s := fun C hC => va_AO.of (hts _ (lw_w8 C hC))
  obtain ⟨D, hD⟩ := lw_known hts
  obtain ⟨a0, k0, n0⟩ := lw_arrP (ty := .int) (hts _ (lw_w7 _ (List.mem_of_getElem? (i := 8) rfl)))
  obtain ⟨a1, k1, n1⟩ := lw_arrP (ty := .boolean) (hts _ (lw_w7 _ (List.mem_of_getElem? (i := 9) rfl)))
  obtain ⟨a2, k2, n2⟩ := lw_arrO (hts _ (lw_w8 "QuarrelDesk$Couple" (List.mem_of_getElem? (i := 0) rfl)))
  obtain ⟨a3, k3, n3⟩ := lw_arrO (hts _ (lw_w8 "QuarrelDesk$Life" (List.mem_of_getElem? (i := 1) rfl)))
  obtain ⟨a4, k4, n4⟩ := lw_arrO (hts _ (lw_w8 "QuarrelDesk$Year" (List.mem_of_getElem? (i := 2) rfl)))
  obtain ⟨adK, adV, hstr, hev⟩ := vk_Sof (args := #[Value.ref b]) (s := s) (N := 1) (tm := fun _ => .string "QuarrelDesk$Text" 81) (len := [77]) (byt := [tm_words]) (A := fun q : Nat => s.heap.size ≤ q)
    (fun i hi => by have h0 : i = 0 := by omega
                    subst h0; decide) (fun i hi => hq _ (lw_w9 _ (List.mem_of_getElem? (i := 6) rfl))) (fun i hi => hq _ (lw_w9 _ (List.mem_of_getElem? (i := 7) rfl))) (fun i hi => hq _ (lw_w9 _ (List.mem_of_getElem? (i := 8) rfl)))
    (fun i hi => by have h0 : i = 0 := by omega
                    subst h0; exact hq _ (lw_w9 _ (List.mem_of_getElem? (i := 9) rfl)))
    (fun i hi j hj => by have h0 : i = 0 := by omega
                         subst h0; exact hq _ (lw_w11 j hj)) (fun i j hi hj hne => absurd (by omega) hne) hA
  obtain ⟨t1, e1, T1⟩ := va_Tof (args := #[Value.ref b]) (s := s) (tm := .static "QuarrelDesk" "TERM_LEAST" "[I") (ty := .int) (N := 6) (f := fun j => .int (tm_least j)) (A := fun q : Nat => s.heap.size ≤ q) (by decide) (hq _ (lw_w9 _ (List.mem_of_getElem? (i := 0) rfl))) (va_eqt (hq _ (lw_w9 _ (List.mem_of_getElem? (i := 1) rfl)))) (fun j hj => va_eqt (hq _ (lw_w10 j hj).1)) hA
  obtain ⟨t2, e2, T2⟩ := va_Tof (args := #[Value.ref b]) (s := s) (tm := .static "QuarrelDesk" "TERM_MOST" "[I") (ty := .int) (N := 6) (f := fun j => .int (tm_most j)) (A := fun q : Nat => s.heap.size ≤ q) (by decide) (hq _ (lw_w9 _ (List.mem_of_getElem? (i := 2) rfl))) (va_eqt (hq _ (lw_w9 _ (List.mem_of_getElem? (i := 3) rfl)))) (fun j hj => va_eqt (hq _ (lw_w10 j hj).2)) hA
  refine ⟨(D, (fun k => match k with | 0 => a0 | 1 => a1 | 2 => a2 | 3 => a3 | 4 => a4 | 5 => adK 0 | _ => adV 0), s.heap.size), rfl, ⟨hD, ?_⟩, ?_, hO⟩
  · intro k q hk
    match k, hk with
    | 0, hk => cases hk; exact ⟨k0, n0⟩
    | 1, hk => cases hk; exact ⟨k1, n1⟩
    | 2, hk => cases hk; exact ⟨k2, n2⟩
    | 3, hk => cases hk; exact ⟨k3, n3⟩
    | 4, hk => cases hk; exact ⟨k4, n4⟩
    | k + 5, hk => exact absurd hk (by simp [tm_tys])
  · refine ⟨fun q h => va_Nw.of rfl (hts _ (lw_w1 q h)), fun x h => va_Nw.of rfl (hts _ (lw_w2 x h)), va_Nw.of rfl (hts _ lw_w3), va_Nw.of rfl (hts _ lw_w4), fun q h => va_Nw.of rfl (hts _ (lw_w5 q h)), fun q h => va_Nc.of (hq _ (lw_w6 q h)), ⟨t1, va_Zref (hts _ (lw_w7 _ (List.mem_of_getElem? (i := 0) rfl))) (hts _ (lw_w7 _ (List.mem_of_getElem? (i := 4) rfl))) e1 hA, T1⟩, ⟨t2, va_Zref (hts _ (lw_w7 _ (List.mem_of_getElem? (i := 1) rfl))) (hts _ (lw_w7 _ (List.mem_of_getElem? (i := 4) rfl))) e2 hA, T2⟩, va_Zof (hts _ (lw_w7 _ (List.mem_of_getElem? (i := 2) rfl))) (hts _ (lw_w7 _ (List.mem_of_getElem? (i := 5) rfl))) (va_eqt (hq _ (lw_w9 _ (List.mem_of_getElem? (i := 4) rfl)))) hA, ⟨?_, ?_⟩, fun w h => va_Nw.of (tm_xw_on h) (hts _ (lw_w12 w h)), va_Zqof (hts _ (lw_w7 _ (List.mem_of_getElem? (i := 3) rfl))) (hts _ (lw_w7 _ (List.mem_of_getElem? (i := 6) rfl))) (hq _ (lw_w9 _ (List.mem_of_getElem? (i := 5) rfl))) hA⟩
    · refine ⟨fun i hi => ?_, fun i j hi hj _ => by omega⟩
      have h0 : i = 0 := by omega
      subst h0
      exact hstr.1 0 hi
    · exact vk_R.of (hts _ (lw_w7 _ (List.mem_of_getElem? (i := 7) rfl))) (hev 0 (by decide))
