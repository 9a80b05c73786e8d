/-! TEXTS: words and numbers -/
theorem w_cmp : ∀ m, m < 77 → (tm_wch m = 32 ∧ mWords.getD m 0 = 0) ∨ (tm_wch m = mWords.getD m 0 ∧ ¬ tm_wch m = 32 ∧ ¬ tm_wch m = 0) := by decide +kernel
theorem so_32 {x : Int32} (h : so x = 1) : ¬ x = 32 ∧ ¬ x = 0 := by
  constructor
  · intro e
    rw [e] at h
    exact absurd h (by decide)
  · intro e
    rw [e] at h
    exact absurd h (by decide)
theorem wd_1 {C N : tm_M} {t b e j : Nat} {L : LV} {x y : Int32} (hC : xC C t L) (hN : xN N t L) (hw : ∀ i, i < 77 → N 128 i = mWords.getD i 0) (hbe : b ≤ e) (het : e ≤ t) (hs : ∀ k, b ≤ k → k < e → sz L t k = 1) (hj : j < 11) : ∀ (n f1 f2 i : Nat), i + n = 7 → n + 1 < f1 → n + 1 < f2 → ∃ r : Int32, (r = 0 ∨ r = 1) ∧ f_X7_isSpelled_L2 (fun v18 => some 1) (tC C (nI b) (nI e)) (nI j) f1 (nI i) = some r ∧ f_X10_isWord_L22 (fun v16 v17 => tm_gd (v16 = 0 ∨ v16 = 1) <| some v16) (tN N (nI b) (nI e)) (nI j) f2 1 (nI i) = some r := by
  have ht := hC.1
  intro n
  induction n with
  | zero =>
    intro f1 f2 i hi hf1 hf2
    obtain ⟨f1, rfl⟩ : ∃ g, f1 = g + 1 := ⟨f1 - 1, by omega⟩
    obtain ⟨f2, rfl⟩ : ∃ g, f2 = g + 1 := ⟨f2 - 1, by omega⟩
    have : i = 7 := by omega
    subst this
    refine ⟨1, Or.inr rfl, ?_, ?_⟩
    · rw [f_X7_isSpelled_L2, if_pos (by decide)]
    · rw [f_X10_isWord_L22, if_pos (by decide), tm_gd_t (Or.inr rfl)]
  | succ n ih =>
    intro f1 f2 i hi hf1 hf2
    obtain ⟨f1, rfl⟩ : ∃ g, f1 = g + 1 := ⟨f1 - 1, by omega⟩
    obtain ⟨f2, rfl⟩ : ∃ g, f2 = g + 1 := ⟨f2 - 1, by omega⟩
    have n7 : ¬ (7 : Int32) ≤ nI i := nI_ge (b := 7) (by omega) (by decide)
    have e1 : nI j * 7 + nI i = nI (7 * j + i) := by rw [show nI j * 7 = nI (j * 7) from pk_mul j 7, nI_add, Nat.mul_comm]
    have e2 : (7 : Int32) * nI j + nI i = nI (7 * j + i) := by rw [show (7 : Int32) * nI j = nI (7 * j) from pk_mul 7 j, nI_add]
    have hm : 7 * j + i < 77 := by omega
    have n0 : ¬ nI (7 * j + i) < 0 := nI_pos (by omega)
    have n77 : ¬ (77 : Int32) ≤ nI (7 * j + i) := nI_ge (b := 77) hm (by decide)
    have fin : ∀ (p q : Prop) [Decidable p] [Decidable q], (p ↔ q) → ∃ r : Int32, (r = 0 ∨ r = 1) ∧ (if p then f_X7_isSpelled_L2 (fun v18 => some 1) (tC C (nI b) (nI e)) (nI j) f1 (nI (i + 1)) else some 0) = some r ∧ (if q then f_X10_isWord_L22 (fun v16 v17 => tm_gd (v16 = 0 ∨ v16 = 1) <| some v16) (tN N (nI b) (nI e)) (nI j) f2 1 (nI (i + 1)) else f_X10_isWord_L22 (fun v16 v17 => tm_gd (v16 = 0 ∨ v16 = 1) <| some v16) (tN N (nI b) (nI e)) (nI j) f2 0 (nI (i + 1))) = some r := by
      intro p q _ _ hpq
      by_cases h : p
      · rw [if_pos h, if_pos (hpq.mp h)]
        exact ih f1 f2 (i + 1) (by omega) (by omega) (by omega)
      · rw [if_neg h, if_neg (fun z => h (hpq.mpr z))]
        refine ⟨0, Or.inl rfl, rfl, ?_⟩
        obtain ⟨f2, rfl⟩ : ∃ g, f2 = g + 1 := ⟨f2 - 1, by omega⟩
        rw [f_X10_isWord_L22]
        by_cases z3 : (7 : Int32) ≤ nI (i + 1)
        · rw [if_pos z3, tm_gd_t (Or.inl rfl)]
        · rw [if_neg z3, if_pos rfl, tm_gd_t (Or.inl rfl)]
    rw [f_X7_isSpelled_L2, if_neg n7, tC_26, tC_27, f_X10_isWord_L22, if_neg n7, if_neg (by decide), tN_16, tN_17, nI_add, e1, e2, nI_1]
    simp only [Option.bind_some]
    simp only [if_neg n0, if_neg n77]
    rw [tm_rdsN hm (by decide), tm_rdN hm (by decide), tN_ne _ _ _ (show (128 : Nat) ≠ 127 by decide), hw _ hm]
    simp only [Option.bind_some]
    by_cases z : e ≤ b + i
    · rw [if_pos (nI_le z (by omega)), if_pos (nI_le z (by omega))]
      refine fin _ _ ?_
      rcases w_cmp _ hm with ⟨h1, h2⟩ | ⟨h1, h2, h3⟩
      · rw [h1, h2]
        exact ⟨fun _ => rfl, fun _ => rfl⟩
      · rw [← h1]
        exact ⟨fun h => absurd h.symm h2, fun h => absurd h.symm h3⟩
    · have hlt : b + i < t := by omega
      have hl := hs (b + i) (by omega) (by omega)
      have hl2 : so (L (b + i)) = 1 := by
        unfold sz at hl
        rw [if_pos hlt] at hl
        exact hl
      obtain ⟨l1, l2⟩ := so_32 hl2
      rw [if_neg (nI_ge (by omega) (by omega)), if_neg (nI_ge (by omega) (by omega)), x_let (xC_t hC _ _) (by omega), if_pos hlt, tm_rdN (by omega) (by decide), (xN_t hN _ _).2.2 _ hlt]
      simp only [Option.bind_some]
      refine fin _ _ ?_
      rcases w_cmp _ hm with ⟨h1, h2⟩ | ⟨h1, h2, h3⟩
      · rw [h1, h2]
        exact ⟨fun h => absurd h l1, fun h => absurd h l2⟩
      · rw [← h1]
theorem wd_n {C N : tm_M} {t b e : Nat} {L : LV} (hC : xC C t L) (hN : xN N t L) (hw : ∀ i, i < 77 → N 128 i = mWords.getD i 0) (hbe : b ≤ e) (het : e ≤ t) (hs : ∀ k, b ≤ k → k < e → sz L t k = sz L t b) : ∃ w : Int32, f_X7_word (tC C (nI b) (nI e)) = some w ∧ f_X10_word (tN N (nI b) (nI e)) = some w ∧ (w = -1 ∨ ∃ j, j < 11 ∧ w = nI j) := by
  have ht := hC.1
  have hsub : nI e - nI b = nI (e - b) := pk_sub hbe
  by_cases z : sz L t b = 1
  · by_cases z7 : 7 < e - b
    · have l7 : (7 : Int32) < nI (e - b) := nI_lt (a := 7) z7 (by omega)
      have lp : ∀ (n f j : Nat), j + n = 11 → n < f → f_X10_word_L2 (fun v8 => some (-1)) (tN N (nI b) (nI e)) f (nI j) = some (-1) := by
        intro n
        induction n with
        | zero =>
          intro f j hj hf
          obtain ⟨f, rfl⟩ : ∃ g, f = g + 1 := ⟨f - 1, by omega⟩
          have : j = 11 := by omega
          subst this
          rw [f_X10_word_L2, if_pos (by decide)]
        | succ n ih =>
          intro f j hj hf
          obtain ⟨f, rfl⟩ : ∃ g, f = g + 1 := ⟨f - 1, by omega⟩
          have hi : f_X10_isWord (tN N (nI b) (nI e)) (nI j) = some 0 := by
            unfold f_X10_isWord
            rw [tN_16, tN_17, hsub, if_pos l7, show (1000 : Nat) = 999 + 1 from rfl, f_X10_isWord_L22, if_neg (by decide), if_pos rfl, tm_gd_t (Or.inl rfl)]
          rw [f_X10_word_L2, if_neg (show ¬ (11 : Int32) ≤ nI j from nI_ge (b := 11) (by omega) (by decide)), tN_16, y_small (xN_t hN _ _) (by omega), Option.bind_some, if_pos z, if_neg (show ¬ (1 : Int32) = 0 by decide), hi, Option.bind_some, if_pos rfl, nI_1]
          exact ih f (j + 1) (by omega) (by omega)
      refine ⟨-1, ?_, lp 11 1000 0 (by omega) (by omega), Or.inl rfl⟩
      unfold f_X7_word
      rw [tC_26, x_sort (xC_t hC _ _) (by omega), Option.bind_some, if_pos z, tC_27, hsub, if_pos l7]
    · have l7 : ¬ (7 : Int32) < nI (e - b) := nI_nlt (b := e - b) (a := 7) |> fun _ => by rw [show (7 : Int32) = nI 7 from rfl, nI_ltI (by omega) (by omega)]; omega
      have hs1 : ∀ k, b ≤ k → k < e → sz L t k = 1 := fun k h1 h2 => (hs k h1 h2).trans z
      have lp : ∀ (n f1 f2 j : Nat), j + n = 11 → n < f1 → n < f2 → ∃ w : Int32, f_X7_word_L28 (fun v9 => some (-1)) (tC C (nI b) (nI e)) f1 (nI j) = some w ∧ f_X10_word_L2 (fun v8 => some (-1)) (tN N (nI b) (nI e)) f2 (nI j) = some w ∧ (w = -1 ∨ ∃ j, j < 11 ∧ w = nI j) := by
        intro n
        induction n with
        | zero =>
          intro f1 f2 j hj hf1 hf2
          obtain ⟨f1, rfl⟩ : ∃ g, f1 = g + 1 := ⟨f1 - 1, by omega⟩
          obtain ⟨f2, rfl⟩ : ∃ g, f2 = g + 1 := ⟨f2 - 1, by omega⟩
          have : j = 11 := by omega
          subst this
          exact ⟨-1, by rw [f_X7_word_L28, if_pos (by decide)], by rw [f_X10_word_L2, if_pos (by decide)], Or.inl rfl⟩
        | succ n ih =>
          intro f1 f2 j hj hf1 hf2
          obtain ⟨f1, rfl⟩ : ∃ g, f1 = g + 1 := ⟨f1 - 1, by omega⟩
          obtain ⟨f2, rfl⟩ : ∃ g, f2 = g + 1 := ⟨f2 - 1, by omega⟩
          have n11 : ¬ (11 : Int32) ≤ nI j := nI_ge (b := 11) (by omega) (by decide)
          obtain ⟨r, hr, q1, q2⟩ := wd_1 (x := 0) (y := 0) hC hN hw hbe het hs1 (show j < 11 by omega) 7 1000 1000 0 (by omega) (by omega) (by omega)
          have i1 : f_X7_isSpelled (tC C (nI b) (nI e)) (nI j) = some r := q1
          have i2 : f_X10_isWord (tN N (nI b) (nI e)) (nI j) = some r := by
            unfold f_X10_isWord
            rw [tN_16, tN_17, hsub, if_neg l7]
            exact q2
          rw [f_X7_word_L28, if_neg n11, i1, Option.bind_some, f_X10_word_L2, if_neg n11, tN_16, y_small (xN_t hN _ _) (by omega), Option.bind_some, if_pos z, if_neg (show ¬ (1 : Int32) = 0 by decide), i2, Option.bind_some, nI_1]
          rcases hr with rfl | rfl
          · rw [if_pos rfl, if_pos rfl]
            exact ih f1 f2 (j + 1) (by omega) (by omega) (by omega)
          · rw [if_neg (by decide), if_neg (by decide)]
            exact ⟨nI j, rfl, rfl, Or.inr ⟨j, by omega, rfl⟩⟩
      obtain ⟨w, w1, w2, w3⟩ := lp 11 1000 1000 0 (by omega) (by omega) (by omega)
      refine ⟨w, ?_, w2, w3⟩
      unfold f_X7_word
      rw [tC_26, x_sort (xC_t hC _ _) (by omega), Option.bind_some, if_pos z, tC_27, hsub, if_neg l7]
      exact w1
  · have lp : ∀ (n f j : Nat), j + n = 11 → n < f → f_X10_word_L2 (fun v8 => some (-1)) (tN N (nI b) (nI e)) f (nI j) = some (-1) := by
      intro n
      induction n with
      | zero =>
        intro f j hj hf
        obtain ⟨f, rfl⟩ : ∃ g, f = g + 1 := ⟨f - 1, by omega⟩
        have : j = 11 := by omega
        subst this
        rw [f_X10_word_L2, if_pos (by decide)]
      | succ n ih =>
        intro f j hj hf
        obtain ⟨f, rfl⟩ : ∃ g, f = g + 1 := ⟨f - 1, by omega⟩
        rw [f_X10_word_L2, if_neg (show ¬ (11 : Int32) ≤ nI j from nI_ge (b := 11) (by omega) (by decide)), tN_16, y_small (xN_t hN _ _) (by omega), Option.bind_some, if_neg z, if_pos rfl, nI_1]
        exact ih f (j + 1) (by omega) (by omega)
    refine ⟨-1, ?_, lp 11 1000 0 (by omega) (by omega), Or.inl rfl⟩
    unfold f_X7_word
    rw [tC_26, x_sort (xC_t hC _ _) (by omega), Option.bind_some, if_neg z]
/-- a number, of both; either none or within its bounds -/
theorem nm_n {C N : tm_M} {t a l m : Nat} {L : LV} {b1 b2 A B : Int32} (hC : xC C t L) (hN : xN N t L) (ha : a ≤ t) (hA : A = nI l) (hB : B = nI m) (hlm : l ≤ m) (hm : m < 1000) : ∃ (v : Int32) (b e : Nat), b ≤ e ∧ e ≤ t ∧ f_X7_number (tC C b1 (nI a)) A B = some (v, tC C (nI b) (nI e)) ∧ f_X10_number (tN N b2 (nI a)) A B = some (v, tN N (nI b) (nI e)) ∧ (v = -1 ∨ ∃ k, l ≤ k ∧ k ≤ m ∧ v = nI k) := by
  have ht := hC.1
  obtain ⟨b, e, q1, q2, q3, q4, q5, q6, q7⟩ := tk_n (b1 := b1) (b2 := b2) hC hN ha
  have hsub : nI e - nI b = nI (e - b) := pk_sub q2
  have io : ∀ v : Int32, (∃ w : Int32, ((f_X9_outside v A B).bind fun r16 => if r16 = 0 then some (v, tC C (nI b) (nI e)) else some ((-1), tC C (nI b) (nI e))) = some (w, tC C (nI b) (nI e)) ∧ ((f_X10_in v A B).bind fun r18 => if r18 = 0 then some ((-1), tN N (nI b) (nI e)) else some (v, tN N (nI b) (nI e))) = some (w, tN N (nI b) (nI e)) ∧ (w = -1 ∨ ∃ k, l ≤ k ∧ k ≤ m ∧ w = nI k)) := by
    intro v
    rcases in_out v hA hB hlm hm with ⟨k, k1, k2, rfl, g1, g2⟩ | ⟨g1, g2⟩
    · refine ⟨nI k, ?_, ?_, Or.inr ⟨k, k1, k2, rfl⟩⟩
      · rw [g1, Option.bind_some, if_pos rfl]
      · rw [g2, Option.bind_some, if_neg (by decide)]
    · refine ⟨-1, ?_, ?_, Or.inl rfl⟩
      · rw [g1, Option.bind_some, if_neg (by decide)]
      · rw [g2, Option.bind_some, if_pos rfl]
  unfold f_X7_number f_X10_number
  rw [q6, q7]
  simp only [Option.bind_some]
  rw [tC_26, tC_27, tN_16, tN_17, hsub, x_sort (xC_t hC _ _) (by omega), y_digit (xN_t hN _ _) (by omega)]
  simp only [Option.bind_some]
  by_cases z : sz L t b = 2
  · have hbt : b < t := Decidable.byContradiction fun h => by
      unfold sz at z
      rw [if_neg h] at z
      exact absurd z (by decide)
    have hbe := q4 hbt
    rw [if_pos z, if_pos z, if_neg (show ¬ (1 : Int32) = 0 by decide)]
    by_cases z2 : e - b ≤ 2
    · have l2 : nI (e - b) ≤ 2 := nI_le (b := 2) z2 (by decide)
      rw [if_pos l2, if_pos l2, tm_rdN (by omega) (by decide), (xN_t hN _ _).2.2 b hbt]
      simp only [Option.bind_some]
      by_cases z3 : e = b + 2
      · obtain ⟨w, g1, g2, g3⟩ := io (10 * (L b - 48) + L (b + 1) - 48)
        have hb1 : b + 1 < t := by omega
        refine ⟨w, b, e, q2, q3, ?_, ?_, g3⟩
        · rw [show (1000 : Nat) = 997 + 1 + 1 + 1 from rfl, f_X7_number_L42, tC_27, if_neg (nI_ge (by omega) (by omega)), x_let (xC_t hC _ _) (by omega), if_pos hbt, Option.bind_some, Option.bind_some, nI_1, f_X7_number_L42, tC_27, if_neg (nI_ge (by omega) (by omega)), x_let (xC_t hC _ _) (by omega), if_pos hb1, Option.bind_some, Option.bind_some, nI_1, f_X7_number_L42, tC_27, if_pos (nI_le (by omega) (by omega)), show (10 : Int32) * 0 + L b - 48 = L b - 48 by simp]
          exact g1
        · rw [if_pos (show nI (e - b) = 2 by rw [z3, Nat.add_sub_cancel_left]; rfl), nI_1, tm_rdN (by omega) (by decide), (xN_t hN _ _).2.2 _ hb1]
          simp only [Option.bind_some]
          exact g2
      · obtain ⟨w, g1, g2, g3⟩ := io (L b - 48)
        have he1 : e = b + 1 := by omega
        refine ⟨w, b, e, q2, q3, ?_, ?_, g3⟩
        · rw [show (1000 : Nat) = 998 + 1 + 1 from rfl, f_X7_number_L42, tC_27, if_neg (nI_ge (by omega) (by omega)), x_let (xC_t hC _ _) (by omega), if_pos hbt, Option.bind_some, Option.bind_some, nI_1, f_X7_number_L42, tC_27, if_pos (nI_le (by omega) (by omega)), show (10 : Int32) * 0 + L b - 48 = L b - 48 by simp]
          exact g1
        · rw [if_neg (show ¬ nI (e - b) = 2 by rw [he1, Nat.add_sub_cancel_left]; decide)]
          exact g2
    · have l2 : ¬ nI (e - b) ≤ 2 := nI_ge (a := 2) (by omega) (by omega)
      rw [if_neg l2, if_neg l2]
      exact ⟨-1, b, e, q2, q3, rfl, rfl, Or.inl rfl⟩
  · rw [if_neg z, if_neg z, if_pos rfl]
    exact ⟨-1, b, e, q2, q3, rfl, rfl, Or.inl rfl⟩
