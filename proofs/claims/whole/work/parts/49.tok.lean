/-! TEXTS: tokens -/
def so (x : Int32) : Int32 := if x < 97 then (if x < 48 then 0 else if 57 < x then 0 else 2) else if 122 < x then (if x < 48 then 0 else if 57 < x then 0 else 2) else 1
theorem so_3 (x : Int32) : so x = 0 ∨ so x = 1 ∨ so x = 2 := by
  unfold so
  split
  · split
    · exact Or.inl rfl
    · split
      · exact Or.inl rfl
      · exact Or.inr (Or.inr rfl)
  · split
    · split
      · exact Or.inl rfl
      · split
        · exact Or.inl rfl
        · exact Or.inr (Or.inr rfl)
    · exact Or.inr (Or.inl rfl)
theorem so_1 (x : Int32) : (f_X10_in x 97 122) = some (if so x = 1 then 1 else 0) := by
  unfold f_X10_in so
  by_cases h1 : x < 97
  · rw [if_pos h1, if_pos h1]
    by_cases h2 : x < 48
    · rw [if_pos h2]; rfl
    · rw [if_neg h2]
      by_cases h3 : 57 < x
      · rw [if_pos h3]; rfl
      · rw [if_neg h3]; rfl
  · rw [if_neg h1, if_neg h1]
    by_cases h4 : 122 < x
    · rw [if_pos h4, if_pos h4]
      by_cases h2 : x < 48
      · rw [if_pos h2]; rfl
      · rw [if_neg h2]
        by_cases h3 : 57 < x
        · rw [if_pos h3]; rfl
        · rw [if_neg h3]; rfl
    · rw [if_neg h4, if_neg h4]; rfl
theorem so_2 (x : Int32) : (f_X10_in x 48 57) = some (if so x = 2 then 1 else 0) := by
  unfold f_X10_in so
  have h5 : x < 48 → x < 97 := fun h => Int32.lt_trans h (by decide)
  have h6 : ¬ 57 < x → x < 97 := fun h => by
    rcases Int32.le_or_lt (a := (97 : Int32)) (b := x) with h1 | h1
    · exact absurd (Int32.lt_of_lt_of_le (show (57 : Int32) < 97 by decide) h1) h
    · exact h1
  by_cases h2 : x < 48
  · simp [h2, h5 h2]
  · by_cases h3 : 57 < x
    · by_cases h1 : x < 97
      · simp [h1, h2, h3]
      · by_cases h4 : 122 < x
        · simp [h1, h2, h3, h4]
        · simp [h1, h2, h3, h4]
    · simp [h2, h3, h6 h3]
def sz (L : LV) (t k : Nat) : Int32 := if k < t then so (L k) else 0
def xC (C : tm_M) (t : Nat) (L : LV) : Prop := t ≤ 160 ∧ C 2 4 = nI t ∧ ∀ k, k < t → C 3 k = L k
def xN (N : tm_M) (t : Nat) (L : LV) : Prop := t ≤ 160 ∧ N 127 13 = nI t ∧ ∀ k, k < t → N 138 k = L k
theorem x_let {C : tm_M} {t k : Nat} {L : LV} (h : xC C t L) (hk : k < 1000) : f_X7_letterAt C (nI k) = some (if k < t then L k else 32) := by
  obtain ⟨h1, h2, h3⟩ := h
  unfold f_X7_letterAt
  rw [if_neg (nI_pos (by omega)), h2]
  by_cases z : k < t
  · rw [if_neg (nI_ge z (by omega)), if_neg (show ¬ (160 : Int32) ≤ nI k from nI_ge (b := 160) (by omega) (by decide)), tm_rdN (by omega) (by decide), Option.bind_some, h3 k z, if_pos z]
  · rw [if_pos (nI_le (by omega) (by omega)), if_neg z]
theorem x_sort {C : tm_M} {t k : Nat} {L : LV} (h : xC C t L) (hk : k < 1000) : f_X7_sortAt C (nI k) = some (sz L t k) := by
  unfold f_X7_sortAt
  rw [x_let h hk, Option.bind_some]
  unfold sz so
  by_cases z : k < t
  · rw [if_pos z, if_pos z]
    split
    · split
      · rfl
      · split <;> rfl
    · split
      · split
        · rfl
        · split <;> rfl
      · rfl
  · rw [if_neg z, if_neg z]
    rfl
theorem y_small {N : tm_M} {t k : Nat} {L : LV} (h : xN N t L) (hk : k < 1000) : f_X10_isSmall N (nI k) = some (if sz L t k = 1 then 1 else 0) := by
  obtain ⟨h1, h2, h3⟩ := h
  unfold f_X10_isSmall sz
  rw [h2]
  by_cases z : k < t
  · rw [if_neg (nI_ge z (by omega)), tm_rdN (by omega) (by decide), Option.bind_some, h3 k z, so_1, Option.bind_some, if_pos z]
    by_cases w : so (L k) = 1
    · rw [if_pos w, if_neg (by decide)]
    · rw [if_neg w, if_pos rfl]
  · rw [if_pos (nI_le (by omega) (by omega)), if_neg z]
    rfl
theorem y_digit {N : tm_M} {t k : Nat} {L : LV} (h : xN N t L) (hk : k < 1000) : f_X10_isDigit N (nI k) = some (if sz L t k = 2 then 1 else 0) := by
  obtain ⟨h1, h2, h3⟩ := h
  unfold f_X10_isDigit sz
  rw [h2]
  by_cases z : k < t
  · rw [if_neg (nI_ge z (by omega)), tm_rdN (by omega) (by decide), Option.bind_some, h3 k z, so_2, Option.bind_some, if_pos z]
    by_cases w : so (L k) = 2
    · rw [if_pos w, if_neg (by decide)]
    · rw [if_neg w, if_pos rfl]
  · rw [if_pos (nI_le (by omega) (by omega)), if_neg z]
    rfl
/-- the class's and the reference's places in the text -/
def tC (C : tm_M) (b e : Int32) : tm_M := tm_sr C 2 (upd (upd (C 2) 6 b) 7 e)
def tN (N : tm_M) (b e : Int32) : tm_M := tm_sr N 127 (upd (upd (N 127) 16 b) 17 e)
theorem tC_26 (C : tm_M) (b e : Int32) : tC C b e 2 6 = b := by unfold tC; rw [tm_sr_at, pk_un (by decide), pk_us]
theorem tC_27 (C : tm_M) (b e : Int32) : tC C b e 2 7 = e := by unfold tC; rw [tm_sr_at, pk_us]
theorem tN_16 (C : tm_M) (b e : Int32) : tN C b e 127 16 = b := by unfold tN; rw [tm_sr_at, pk_un (by decide), pk_us]
theorem tN_17 (C : tm_M) (b e : Int32) : tN C b e 127 17 = e := by unfold tN; rw [tm_sr_at, pk_us]
theorem tC_k (C : tm_M) (b e : Int32) {k : Nat} (h6 : k ≠ 6) (h7 : k ≠ 7) : tC C b e 2 k = C 2 k := by unfold tC; rw [tm_sr_at, pk_un h7, pk_un h6]
theorem tN_k (C : tm_M) (b e : Int32) {k : Nat} (h6 : k ≠ 16) (h7 : k ≠ 17) : tN C b e 127 k = C 127 k := by unfold tN; rw [tm_sr_at, pk_un h7, pk_un h6]
theorem tC_ne (C : tm_M) (b e : Int32) {a : Nat} (h : a ≠ 2) : tC C b e a = C a := tm_sr_ne _ _ h
theorem tN_ne (C : tm_M) (b e : Int32) {a : Nat} (h : a ≠ 127) : tN C b e a = C a := tm_sr_ne _ _ h
theorem tC_6 (C : tm_M) (b e x : Int32) : tm_st (tC C b e) 2 6 x = tC C x e := by
  unfold tC
  rw [tm_st_sr, tm_sr_sr, tm_sr_at]
  congr 1
  funext k
  unfold upd
  split
  · next h => rw [h]; rfl
  · rfl
theorem tC_7 (C : tm_M) (b e x : Int32) : tm_st (tC C b e) 2 7 x = tC C b x := by
  unfold tC
  rw [tm_st_sr, tm_sr_sr, tm_sr_at]
  congr 1
  funext k
  unfold upd
  split
  · rfl
  · rfl
theorem tN_6 (C : tm_M) (b e x : Int32) : tm_st (tN C b e) 127 16 x = tN C x e := by
  unfold tN
  rw [tm_st_sr, tm_sr_sr, tm_sr_at]
  congr 1
  funext k
  unfold upd
  split
  · next h => rw [h]; rfl
  · rfl
theorem tN_7 (C : tm_M) (b e x : Int32) : tm_st (tN C b e) 127 17 x = tN C b x := by
  unfold tN
  rw [tm_st_sr, tm_sr_sr, tm_sr_at]
  congr 1
  funext k
  unfold upd
  split
  · rfl
  · rfl
theorem xC_t {C : tm_M} {t : Nat} {L : LV} (h : xC C t L) (b e : Int32) : xC (tC C b e) t L := ⟨h.1, by rw [tC_k _ _ _ (by decide) (by decide)]; exact h.2.1, fun k hk => by rw [tC_ne _ _ _ (by decide)]; exact h.2.2 k hk⟩
theorem xN_t {N : tm_M} {t : Nat} {L : LV} (h : xN N t L) (b e : Int32) : xN (tN N b e) t L := ⟨h.1, by rw [tN_k _ _ _ (by decide) (by decide)]; exact h.2.1, fun k hk => by rw [tN_ne _ _ _ (by decide)]; exact h.2.2 k hk⟩
/-- blanks are passed over -/
theorem tk_1 {C N : tm_M} {t : Nat} {L : LV} {e1 e2 : Int32} {kc km : tm_M → Option tm_M} (hC : xC C t L) (hN : xN N t L) : ∀ (j f1 f2 a : Nat), a + j = t → j < f1 → j < f2 → ∃ b, a ≤ b ∧ b ≤ t ∧ f_X7_nextToken_L8 kc f1 (tC C (nI a) e1) = kc (tC C (nI b) e1) ∧ f_X10_next_L8 km f2 (tN N (nI a) e2) = km (tN N (nI b) e2) := by
  have ht := hC.1
  intro j
  induction j with
  | zero =>
    intro f1 f2 a ha hf1 hf2
    obtain ⟨f1, rfl⟩ : ∃ g, f1 = g + 1 := ⟨f1 - 1, by omega⟩
    obtain ⟨f2, rfl⟩ : ∃ g, f2 = g + 1 := ⟨f2 - 1, by omega⟩
    have : a = t := by omega
    subst this
    refine ⟨a, Nat.le_refl _, Nat.le_refl _, ?_, ?_⟩
    · rw [f_X7_nextToken_L8, (xC_t hC _ _).2.1, tC_26, if_pos (nI_le (Nat.le_refl _) (by omega))]
    · rw [f_X10_next_L8, (xN_t hN _ _).2.1, tN_16, if_pos (nI_le (Nat.le_refl _) (by omega))]
  | succ j ih =>
    intro f1 f2 a ha hf1 hf2
    obtain ⟨f1, rfl⟩ : ∃ g, f1 = g + 1 := ⟨f1 - 1, by omega⟩
    obtain ⟨f2, rfl⟩ : ∃ g, f2 = g + 1 := ⟨f2 - 1, by omega⟩
    have hn : ¬ nI t ≤ nI a := nI_ge (by omega) (by omega)
    have hlt : a < t := by omega
    rw [f_X7_nextToken_L8, (xC_t hC _ _).2.1, tC_26, if_neg hn, x_let (xC_t hC _ _) (by omega), Option.bind_some, if_pos hlt, f_X10_next_L8, (xN_t hN _ _).2.1, tN_16, if_neg hn, tm_rdN (by omega) (by decide), (xN_t hN _ _).2.2 a hlt]
    simp only [Option.bind_some]
    by_cases z : L a = 32
    · rw [if_pos z, if_pos z, tC_6, tN_6, nI_1]
      obtain ⟨b, b1, b2, b3, b4⟩ := ih f1 f2 (a + 1) (by omega) (by omega) (by omega)
      exact ⟨b, by omega, b2, b3, b4⟩
    · rw [if_neg z, if_neg z]
      exact ⟨a, Nat.le_refl _, by omega, rfl, rfl⟩
/-- the end of a token -/
theorem tk_2 {C N : tm_M} {t b : Nat} {L : LV} {kc km : tm_M → Option tm_M} (hC : xC C t L) (hN : xN N t L) (hb : b ≤ t) : ∀ (j f1 f2 a : Nat), a + j = t → j < f1 → j < f2 → b ≤ a → (∀ k, b ≤ k → k < a → sz L t k = sz L t b) → ∃ e, a ≤ e ∧ e ≤ t ∧ (∀ k, b ≤ k → k < e → sz L t k = sz L t b) ∧ f_X7_nextToken_L71 kc (sz L t b) f1 (tC C (nI b) (nI a)) = kc (tC C (nI b) (nI e)) ∧ f_X10_next_L74 km f2 (tN N (nI b) (nI a)) = km (tN N (nI b) (nI e)) := by
  have ht := hC.1
  have hc : ∀ f a, a ≤ t → f_X7_nextToken_L71 kc (sz L t b) (f + 1) (tC C (nI b) (nI a)) = if sz L t b ≠ 0 ∧ a < t ∧ sz L t a = sz L t b then f_X7_nextToken_L71 kc (sz L t b) f (tC C (nI b) (nI (a + 1))) else kc (tC C (nI b) (nI a)) := by
    intro f a ha
    rw [f_X7_nextToken_L71, (xC_t hC _ _).2.1, tC_27]
    by_cases z0 : sz L t b = 0
    · rw [if_pos z0, if_neg (fun h => h.1 z0)]
    · rw [if_neg z0]
      by_cases z1 : a < t
      · rw [if_neg (nI_ge z1 (by omega)), x_sort (xC_t hC _ _) (by omega), Option.bind_some]
        by_cases z2 : sz L t a = sz L t b
        · rw [if_pos z2, if_pos ⟨z0, z1, z2⟩, Option.bind_some, tC_7, nI_1]
        · rw [if_neg z2, if_neg (fun h => z2 h.2.2)]
      · rw [if_pos (nI_le (by omega) (by omega)), if_neg (fun h => z1 h.2.1)]
  have hm : ∀ f a, a ≤ t → f_X10_next_L74 km (f + 1) (tN N (nI b) (nI a)) = if sz L t b ≠ 0 ∧ a < t ∧ sz L t a = sz L t b then f_X10_next_L74 km f (tN N (nI b) (nI (a + 1))) else km (tN N (nI b) (nI a)) := by
    intro f a ha
    have s0 : ¬ a < t → sz L t a = 0 := fun h => if_neg h
    have sm : ∀ k, k < 1000 → f_X10_isSmall (tN N (nI b) (nI a)) (nI k) = some (if sz L t k = 1 then 1 else 0) := fun k hk => y_small (xN_t hN _ _) hk
    have sd : ∀ k, k < 1000 → f_X10_isDigit (tN N (nI b) (nI a)) (nI k) = some (if sz L t k = 2 then 1 else 0) := fun k hk => y_digit (xN_t hN _ _) hk
    have n1 : ¬ (1 : Int32) = 0 := by decide
    have n12 : ¬ (1 : Int32) = 2 := by decide
    have n21 : ¬ (2 : Int32) = 1 := by decide
    have n20 : ¬ (2 : Int32) = 0 := by decide
    have n01 : ¬ (0 : Int32) = 1 := by decide
    have n02 : ¬ (0 : Int32) = 2 := by decide
    rw [f_X10_next_L74, tN_16, tN_17, sm b (by omega), Option.bind_some, sd b (by omega), sd a (by omega), sm a (by omega)]
    have sb : sz L t b = 0 ∨ sz L t b = 1 ∨ sz L t b = 2 := by
      unfold sz
      split
      · exact so_3 _
      · exact Or.inl rfl
    have sa : sz L t a = 0 ∨ sz L t a = 1 ∨ sz L t a = 2 := by
      unfold sz
      split
      · exact so_3 _
      · exact Or.inl rfl
    rcases sb with e | e | e
    · simp only [e, n01, n02, if_false, if_true, Option.bind_some, ne_eq, not_true, false_and]
    · rcases sa with e2 | e2 | e2
      · simp only [e, e2, n1, n12, n01, n02, if_false, if_true, Option.bind_some, and_false]
      · have z1 : a < t := Decidable.byContradiction fun h => by rw [s0 h] at e2; exact n01 e2
        simp only [e, e2, n1, n12, n01, n02, if_false, if_true, Option.bind_some, z1, tN_7, nI_1, ne_eq, not_false_eq_true, and_true]
      · simp only [e, e2, n1, n12, n21, n01, n02, if_false, if_true, Option.bind_some, and_false]
    · rcases sa with e2 | e2 | e2
      · simp only [e, e2, n1, n12, n21, n20, n01, n02, if_false, if_true, Option.bind_some, and_false]
      · simp only [e, e2, n1, n12, n21, n20, n01, n02, if_false, if_true, Option.bind_some, and_false]
      · have z1 : a < t := Decidable.byContradiction fun h => by rw [s0 h] at e2; exact n02 e2
        simp only [e, e2, n1, n12, n21, n20, n01, n02, if_false, if_true, Option.bind_some, z1, tN_7, nI_1, ne_eq, not_false_eq_true, and_true]
  intro j
  induction j with
  | zero =>
    intro f1 f2 a ha hf1 hf2 hba hs
    obtain ⟨f1, rfl⟩ : ∃ g, f1 = g + 1 := ⟨f1 - 1, by omega⟩
    obtain ⟨f2, rfl⟩ : ∃ g, f2 = g + 1 := ⟨f2 - 1, by omega⟩
    rw [hc f1 a (by omega), hm f2 a (by omega), if_neg (fun h => by have := h.2.1; omega), if_neg (fun h => by have := h.2.1; omega)]
    exact ⟨a, Nat.le_refl _, by omega, hs, rfl, rfl⟩
  | succ j ih =>
    intro f1 f2 a ha hf1 hf2 hba hs
    obtain ⟨f1, rfl⟩ : ∃ g, f1 = g + 1 := ⟨f1 - 1, by omega⟩
    obtain ⟨f2, rfl⟩ : ∃ g, f2 = g + 1 := ⟨f2 - 1, by omega⟩
    rw [hc f1 a (by omega), hm f2 a (by omega)]
    by_cases z : sz L t b ≠ 0 ∧ a < t ∧ sz L t a = sz L t b
    · rw [if_pos z, if_pos z]
      obtain ⟨e, q1, q2, q3, q4, q5⟩ := ih f1 f2 (a + 1) (by omega) (by omega) (by omega) (by omega) (fun k h1 h2 => by
        by_cases h : k = a
        · rw [h]; exact z.2.2
        · exact hs k h1 (by omega))
      exact ⟨e, by omega, q2, q3, q4, q5⟩
    · rw [if_neg z, if_neg z]
      exact ⟨a, Nat.le_refl _, by omega, hs, rfl, rfl⟩
/-- the next token, of both -/
theorem tk_n {C N : tm_M} {t a : Nat} {L : LV} {b1 b2 : Int32} (hC : xC C t L) (hN : xN N t L) (ha : a ≤ t) : ∃ b e, a ≤ b ∧ b ≤ e ∧ e ≤ t ∧ (b < t → b < e) ∧ (∀ k, b ≤ k → k < e → sz L t k = sz L t b) ∧ f_X7_nextToken (tC C b1 (nI a)) = some (tC C (nI b) (nI e)) ∧ f_X10_next (tN N b2 (nI a)) = some (tN N (nI b) (nI e)) := by
  have ht := hC.1
  unfold f_X7_nextToken f_X10_next
  rw [tC_27, tC_6, Option.bind_some, tN_17, tN_6, Option.bind_some]
  obtain ⟨b, q1, q2, q3, q4⟩ := tk_1 (e1 := nI a) (e2 := nI a) (kc := fun M9 => (f_X7_sortAt M9 (M9 2 6)).bind fun r10 => (some (tm_st M9 2 7 (if ((M9 2 6) + 1) < (M9 2 4) then ((M9 2 6) + 1) else (M9 2 4)))).bind fun M12 => f_X7_nextToken_L71 (fun M21 => some M21) r10 1000 M12) (km := fun M9 => if (M9 127 13) ≤ (M9 127 16) then (some (tm_st M9 127 17 (M9 127 16))).bind fun M11 => f_X10_next_L74 (fun M37 => some M37) 1000 M11 else (some (tm_st M9 127 17 ((M9 127 16) + 1))).bind fun M38 => f_X10_next_L74 (fun M40 => some M40) 1000 M38) hC hN (t - a) 1000 1000 a (by omega) (by omega) (by omega)
  rw [q3, q4, show f_X7_sortAt (tC C (nI b) (nI a)) (tC C (nI b) (nI a) 2 6) = some (sz L t b) from by rw [tC_26]; exact x_sort (xC_t hC _ _) (by omega), Option.bind_some, tC_26, (xC_t hC _ _).2.1, tC_7, (xN_t hN _ _).2.1, tN_16, tN_7, tN_7]
  by_cases z : b < t
  · have hlt : (if nI b + 1 < nI t then nI b + 1 else nI t) = nI (b + 1) := by
      rw [nI_1]
      by_cases z2 : b + 1 < t
      · rw [if_pos (nI_lt z2 (by omega))]
      · rw [if_neg (nI_nlt (by omega) (by omega)), show b + 1 = t by omega]
    obtain ⟨e, p1, p2, p3, p4, p5⟩ := tk_2 (b := b) (kc := fun M21 => some M21) (km := fun M40 => some M40) hC hN q2 (t - (b + 1)) 1000 1000 (b + 1) (by omega) (by omega) (by omega) (by omega) (fun k h1 h2 => by rw [show k = b by omega])
    refine ⟨b, e, q1, by omega, p2, fun _ => by omega, p3, ?_, ?_⟩
    · rw [hlt, Option.bind_some]
      exact p4
    · rw [if_neg (nI_ge z (by omega)), Option.bind_some, nI_1]
      exact p5
  · have hbt : b = t := by omega
    subst hbt
    obtain ⟨e, p1, p2, p3, p4, p5⟩ := tk_2 (b := b) (kc := fun M21 => some M21) (km := fun M40 => some M40) hC hN q2 0 1000 1000 b (by omega) (by omega) (by omega) (by omega) (fun k h1 h2 => by omega)
    have he : e = b := by omega
    subst he
    refine ⟨e, e, q1, Nat.le_refl _, p2, fun h => by omega, p3, ?_, ?_⟩
    · rw [if_neg (show ¬ nI e + 1 < nI e by rw [nI_1]; exact nI_nlt (by omega) (by omega)), Option.bind_some]
      exact p4
    · rw [if_pos (nI_le (Nat.le_refl _) (by omega)), Option.bind_some]
      exact p5
