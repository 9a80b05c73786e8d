/-! THE START: both tell the same -/
theorem cz_rel : ∃ M0 : tm_M, f_X10_layDesk cz_N = some M0 ∧ Rel M0 M0 0 := by
  obtain ⟨N', h, hA, h127, h5, h15, h133, h1331, r0, r1, r13, r44⟩ := m_layD (N := cz_N) (cnt := 0) (by decide) rfl
  have e : ∀ a, a < 127 → N' a = cz_N a := fun a ha => hA a (by omega) (by omega) (by omega)
  have e137 : N' 137 = cz_N 137 := hA 137 (by decide) (by decide) (by decide)
  refine ⟨N', h, Rel_new (by decide) (by rw [h127 7 (by decide) (by decide)]; rfl) ⟨?_, ?_, ?_, ?_, fun c hc => absurd hc (Nat.not_lt_zero c)⟩ (fun i hi => absurd hi (Nat.not_lt_zero i)) ?_ ?_ ?_ ?_ ?_ ?_ ?_ ⟨0, by decide, ?_⟩ h5 h15 h133 h1331 r0 ?_ r13 r44 ⟨0, by decide, ?_, ?_, fun i hi => absurd hi (Nat.not_lt_zero i)⟩ ⟨?_, ?_⟩⟩
  · rw [e 11 (by decide)]; rfl
  · rw [e 11 (by decide)]; rfl
  · rw [e 12 (by decide), e137]; decide
  · rw [e 12 (by decide)]; exact ⟨⟨5, by decide, rfl⟩, ⟨40, by decide, rfl⟩, ⟨2, by decide, rfl⟩, ⟨6, by decide, rfl⟩⟩
  · rw [e 21 (by decide), e 12 (by decide)]; decide
  · rw [e 20 (by decide)]; rfl
  · rw [e 20 (by decide)]; rfl
  · rw [e 48 (by decide)]; rfl
  · rw [e 48 (by decide)]; rfl
  · rw [e 0 (by decide)]; rfl
  · rw [e 0 (by decide)]; rfl
  · rw [e 0 (by decide)]; rfl
  · intro c hc
    refine ⟨(r1 c hc).1.trans (by rw [e137]), ?_⟩
    rw [(r1 c hc).2, if_neg (Nat.not_lt_zero c), if_neg (Nat.not_lt_zero c)]
  · rw [e 2 (by decide)]; rfl
  · rw [h127 13 (by decide) (by decide)]; rfl
  · rw [hA 128 (by decide) (by decide) (by decide)]; decide +kernel
  · rw [hA 129 (by decide) (by decide) (by decide), hA 130 (by decide) (by decide) (by decide), hA 131 (by decide) (by decide) (by decide)]; decide +kernel
