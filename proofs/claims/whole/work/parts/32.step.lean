/-! ONE COUPLE, ONE DAY in the reference: it does to the row what sPass does to the couple -/
theorem bit_at : ∀ w, w < 64 → ∀ c, c < 6 → (nI w >>> (nI c &&& 31)) &&& 1 = if w.testBit c = true then 1 else 0 := by decide +kernel
theorem bit_or : ∀ w, w < 64 → ∀ c, c < 6 → (nI w ||| (1 <<< (nI c &&& 31))) = nI (w ||| 2 ^ c) := by decide +kernel
theorem i_or0 (x : Int32) : x ||| 0 = x := by simp
theorem i_cs {a e : Nat} (ha : a < 2 ^ 30) (he : e < 2 ^ 30) : (if 0 < nI a - nI e then nI a - nI e else 0) = nI (a - e) := by
  rcases Nat.lt_or_ge e a with h | h
  · rw [pk_sub (Nat.le_of_lt h)]
    rw [if_pos (show 0 < nI (a - e) from nI_lt (a := 0) (by omega) (by omega))]
  · have e0 : a - e = 0 := by omega
    rw [e0]
    rcases Nat.lt_or_ge a e with h2 | h2
    · rw [if_neg (fun z => Int32.lt_irrefl (Int32.lt_trans (pk_sneg he h2) z))]
      rfl
    · have : a = e := by omega
      subst this
      rw [pk_sub (Nat.le_refl _), Nat.sub_self]
      rfl
/-- terms within their bounds -/
def tOK (T : LV) : Prop := (∃ x, x ≤ 50 ∧ T 0 = nI x) ∧ (∃ x, x ≤ 99 ∧ T 1 = nI x) ∧ (∃ x, x ≤ 50 ∧ T 2 = nI x) ∧ (∃ x, x ≤ 20 ∧ T 5 = nI x)
/-- a couple's numbers within their bounds, on day d -/
def vOK (d : Nat) (v : LV) : Prop := sKind (v 0) ∧ (v 4 = 0 ∨ v 4 = 1) ∧ (v 11 = 0 ∨ v 11 = 1) ∧ (∃ s, s ≤ d ∧ v 3 = nI s ∧ (3 ≤ s → v 4 = 1)) ∧ (∃ t, t ≤ 9 ∧ v 1 = nI t) ∧ (∃ s, s ≤ 99 ∧ v 2 = nI s) ∧ (∃ p, p ≤ 50 * d ∧ v 8 = nI p) ∧ (∃ q, q ≤ 99 * d ∧ v 9 = nI q)
theorem v_gain {d : Nat} {v : LV} (hd : d < 1100) (h : vOK d v) : ∃ x, x ≤ 1200 ∧ sGain d v = nI x := by
  obtain ⟨hk, -, -, ⟨s, hs, e3, -⟩, ⟨t, ht, e1⟩, -, -, -⟩ := h
  unfold sGain
  rw [e1, e3]
  by_cases h8 : v 0 = 8
  · rw [if_pos h8]
    split
    · exact ⟨t, by omega, rfl⟩
    · exact ⟨t + 2, by omega, nI_add t 2⟩
  · rw [if_neg h8]
    by_cases h9 : v 0 = 9
    · rw [if_pos h9]
      split
      · exact ⟨2 * t, by omega, pk_mul 2 t⟩
      · exact ⟨t, by omega, rfl⟩
    · rw [if_neg h9]
      split
      · exact ⟨t + s, by omega, nI_add t s⟩
      · exact ⟨t, by omega, rfl⟩
theorem v_lim {a : Nat} (ha : a < 2 ^ 31) : (if nI a < 99 then nI a else 99) = nI (min a 99) := by
  by_cases h : a < 99
  · have hh : nI a < 99 := nI_lt (b := 99) h (by decide)
    rw [if_pos hh, Nat.min_eq_left (Nat.le_of_lt h)]
  · have hh : ¬ nI a < 99 := nI_nlt (b := 99) (by omega) ha
    rw [if_neg hh, Nat.min_eq_right (by omega)]
    rfl
theorem v_more {d a : Nat} {v : LV} {x : Int32} (h : vOK d v) (hx : x = nI a) (ha : a ≤ 1200) : ∃ s, s ≤ 99 ∧ (if v 2 + x < 99 then v 2 + x else 99) = nI s := by
  obtain ⟨-, -, -, -, -, ⟨s, hs, e2⟩, -, -⟩ := h
  rw [e2, hx, nI_add, v_lim (by omega)]
  exact ⟨_, Nat.min_le_right _ _, rfl⟩
theorem v_visit {d : Nat} {v : LV} (h : vOK d v) : vOK d (sMore v 10) := by
  obtain ⟨s, hs, e⟩ := v_more h (show (10 : Int32) = nI 10 from rfl) (by omega)
  obtain ⟨h0, h4, h11, h3, h1, -, h8, h9⟩ := h
  unfold sMore
  rw [e]
  refine ⟨?_, ?_, ?_, ?_, ?_, ⟨s, hs, ?_⟩, ?_, ?_⟩ <;> simp only [upd] <;> first | exact h0 | exact h4 | exact h11 | exact h3 | exact h1 | exact h8 | exact h9 | rfl
theorem v_kiss {d : Nat} {v : LV} (h : vOK d v) : vOK d (sKiss v) := by
  obtain ⟨h0, h4, h11, h3, h1, ⟨s, hs, e2⟩, h8, h9⟩ := h
  unfold sKiss
  refine ⟨?_, Or.inl ?_, ?_, ⟨0, Nat.zero_le _, ?_, fun z => absurd z (by decide)⟩, ?_, ⟨s / 2, by omega, ?_⟩, ?_, ?_⟩ <;> simp only [upd] <;> first | exact h0 | exact h11 | exact h1 | exact h8 | exact h9 | rfl | skip
  show v 2 / 2 = nI (s / 2)
  rw [e2]
  exact pk_div (d := 2) (by omega) (by decide) (by decide)
theorem v_pass {d : Nat} {T v : LV} (hd : d < 1100) (hT : tOK T) (h : vOK d v) : vOK (d + 1) (sPass T d v) := by
  obtain ⟨x, hx, ex⟩ := v_gain hd h
  obtain ⟨s2, hs2, e2⟩ := v_more h ex hx
  obtain ⟨⟨t0, ht0, et0⟩, ⟨t1, ht1, et1⟩, ⟨t2, ht2, et2⟩, ⟨t5, ht5, et5⟩⟩ := hT
  obtain ⟨h0, h4, h11, ⟨s, hs, e3, h34⟩, h1, -, ⟨p, hp, e8⟩, ⟨q, hq, e9⟩⟩ := h
  rw [ex] at e2
  have a2 : sDay1 d v 2 = nI s2 := by simp only [sDay1, sMore, upd, ex]; exact e2
  have a0 : sDay1 d v 0 = v 0 := rfl
  have a1 : sDay1 d v 1 = v 1 := rfl
  have a3 : sDay1 d v 3 = v 3 := rfl
  have a4 : sDay1 d v 4 = v 4 := rfl
  have a8 : sDay1 d v 8 = v 8 := rfl
  have a9 : sDay1 d v 9 = v 9 := rfl
  have a10 : sDay1 d v 10 = v 10 := rfl
  have a11 : sDay1 d v 11 = 0 := rfl
  unfold sPass
  generalize sDay1 d v = w at a0 a1 a2 a3 a4 a8 a9 a10 a11 ⊢
  have hw1 : ∃ t, t ≤ 9 ∧ w 1 = nI t := by rw [a1]; exact h1
  have hw0 : sKind (w 0) := by rw [a0]; exact h0
  have hw4 : w 4 = 0 ∨ w 4 = 1 := by rw [a4]; exact h4
  have key : ∀ u : LV, u = (if w 2 < T 4 then (if w 2 < T 3 then upd w 3 0 else if v 0 = 10 then sSulk w else sTiff T d w) else sBreak T d w) → vOK (d + 1) u := by
    intro u hu
    by_cases q1 : w 2 < T 4
    · rw [if_pos q1] at hu
      by_cases q2 : w 2 < T 3
      · rw [if_pos q2] at hu
        subst hu
        exact ⟨hw0, hw4, Or.inl a11, ⟨0, Nat.zero_le _, rfl, fun z => absurd z (by decide)⟩, hw1, ⟨s2, hs2, a2⟩, ⟨p, by omega, a8.trans e8⟩, ⟨q, by omega, a9.trans e9⟩⟩
      · rw [if_neg q2] at hu
        by_cases q3 : v 0 = 10
        · rw [if_pos q3] at hu
          unfold sSulk at hu
          have e31 : w 3 + 1 = nI (s + 1) := by rw [a3, e3]; exact nI_1 s
          by_cases q4 : w 3 + 1 < 3
          · rw [if_pos q4] at hu
            subst hu
            refine ⟨hw0, hw4, Or.inl a11, ⟨s + 1, by omega, e31, fun z => ?_⟩, hw1, ⟨s2, hs2, a2⟩, ⟨p, by omega, a8.trans e8⟩, ⟨q, by omega, a9.trans e9⟩⟩
            rw [e31] at q4
            exact absurd q4 (nI_nlt (b := 3) z (by omega))
          · rw [if_neg q4] at hu
            subst hu
            exact ⟨hw0, Or.inr rfl, Or.inl a11, ⟨s + 1, by omega, e31, fun _ => rfl⟩, hw1, ⟨s2, hs2, a2⟩, ⟨p, by omega, a8.trans e8⟩, ⟨q, by omega, a9.trans e9⟩⟩
        · rw [if_neg q3] at hu
          unfold sTiff at hu
          have f8 : ∃ p2, p2 ≤ 50 * (d + 1) ∧ w 8 + (if sHalf d w = true then T 2 / 2 else T 2) = nI p2 := by
            rw [a8, e8, et2, show nI t2 / 2 = nI (t2 / 2) from pk_div (d := 2) (by omega) (by decide) (by decide)]
            split
            · exact ⟨p + t2 / 2, by omega, nI_add _ _⟩
            · exact ⟨p + t2, by omega, nI_add _ _⟩
          have f2 : (if 0 < w 2 - T 5 then w 2 - T 5 else 0) = nI (s2 - t5) := by rw [a2, et5]; exact i_cs (by omega) (by omega)
          rw [f2] at hu
          have r7 : ∀ k, k ≠ 7 → (if sHalf d w = true then upd w 7 (w 7 + 1) else w) k = w k := by
            intro k hk
            split
            · exact pk_un hk
            · rfl
          generalize (if sHalf d w = true then upd w 7 (w 7 + 1) else w) = w7 at hu r7
          subst hu
          refine ⟨?_, ?_, Or.inr rfl, ⟨s, by omega, ?_, fun z => ?_⟩, ?_, ⟨s2 - t5, by omega, rfl⟩, f8, ⟨q, by omega, ?_⟩⟩
          · show sKind (w7 0); rw [r7 0 (by decide)]; exact hw0
          · show w7 4 = 0 ∨ w7 4 = 1; rw [r7 4 (by decide)]; exact hw4
          · show w7 3 = nI s; rw [r7 3 (by decide), a3]; exact e3
          · show w7 4 = 1; rw [r7 4 (by decide), a4]; exact h34 z
          · show ∃ t, t ≤ 9 ∧ w7 1 = nI t; rw [r7 1 (by decide)]; exact hw1
          · show w7 9 = nI q; rw [r7 9 (by decide), a9]; exact e9
    · rw [if_neg q1] at hu
      unfold sBreak at hu
      have hcl : sClaim T w = nI (min t1 s2 - t0) := by
        unfold sClaim
        have hm : (if T 1 < w 2 then T 1 else w 2) = nI (min t1 s2) := by
          rw [et1, a2]
          by_cases z : t1 < s2
          · rw [if_pos (nI_lt z (by omega)), Nat.min_eq_left (by omega)]
          · rw [if_neg (nI_nlt (by omega) (by omega)), Nat.min_eq_right (by omega)]
        rw [hm, et0]
        exact i_cs (by omega) (by omega)
      have r9 : (∃ q2, q2 ≤ 99 * (d + 1) ∧ (if w 4 = 0 ∧ (w 0 = 9 → d % 7 = 6) then upd w 9 (w 9 + sClaim T w) else w) 9 = nI q2) ∧ ∀ k, k ≠ 9 → (if w 4 = 0 ∧ (w 0 = 9 → d % 7 = 6) then upd w 9 (w 9 + sClaim T w) else w) k = w k := by
        split
        · refine ⟨⟨q + (min t1 s2 - t0), by omega, ?_⟩, fun k hk => pk_un hk⟩
          rw [pk_us, a9, e9, hcl]
          exact nI_add _ _
        · exact ⟨⟨q, by omega, a9.trans e9⟩, fun _ _ => rfl⟩
      generalize (if w 4 = 0 ∧ (w 0 = 9 → d % 7 = 6) then upd w 9 (w 9 + sClaim T w) else w) = w9 at hu r9
      obtain ⟨⟨q2, hq2, e92⟩, r9⟩ := r9
      subst hu
      refine ⟨?_, ?_, Or.inl ?_, ⟨0, Nat.zero_le _, rfl, fun z => absurd z (by decide)⟩, ?_, ⟨0, by omega, rfl⟩, ⟨p, by omega, ?_⟩, ⟨q2, hq2, e92⟩⟩
      · show sKind (w9 0); rw [r9 0 (by decide)]; exact hw0
      · show w9 4 = 0 ∨ w9 4 = 1; rw [r9 4 (by decide)]; exact hw4
      · show w9 11 = 0; rw [r9 11 (by decide)]; exact a11
      · show ∃ t, t ≤ 9 ∧ w9 1 = nI t; rw [r9 1 (by decide)]; exact hw1
      · show w9 8 = nI p; rw [r9 8 (by decide), a8]; exact e8
  exact key _ rfl
