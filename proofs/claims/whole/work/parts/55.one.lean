/-! ONE MEMORY for both: the class's call, then the reference's -/
theorem oOK_one {fx fy : tm_M → Option (Int32 × tm_M)} (h : oOK fx fy) {M : tm_M} {n : Nat} (hR : Rel M M n) : ∃ (r : Int32) (M1 M2 : tm_M) (n2 : Nat), fx M = some (r, M1) ∧ fy M1 = some (r, M2) ∧ Rel M2 M2 n2 := by
  obtain ⟨r, M1, N1, n1, h1, -, -, h4, -⟩ := h M M n hR
  have hR2 : Rel M M1 n := Rel_c (C := M) (N := M) (fun _ _ => rfl) h4 hR
  obtain ⟨r2, M1', M2, n2, g1, g2, g3, -, g5⟩ := h M M1 n hR2
  rw [h1] at g1
  have e := Option.some.inj g1
  have e1 : r = r2 := congrArg Prod.fst e
  have e2 : M1 = M1' := congrArg Prod.snd e
  subst e1
  subst e2
  exact ⟨r, M1, M2, n2, h1, g2, Rel_c (C := M1) (N := M2) (fun a ha => g5 a ha) (fun _ _ => rfl) g3⟩
