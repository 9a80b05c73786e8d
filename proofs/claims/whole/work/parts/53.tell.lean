/-! DESK: what is told -/
def tolS (C : tm_M) (σ : tS) : Prop := σ.1 ≤ 6 ∧ C 11 2 = nI σ.1 ∧ C 11 3 = 0 ∧ (∀ k, k < 6 → C 12 k = σ.2.2 k) ∧ tOK (C 12) ∧ ∀ c, c < σ.1 → sKd (σ.2.1 (3 * c)) (C (14 + c) 0) ∧ σ.2.1 (3 * c + 1) = C (14 + c) 1 ∧ σ.2.1 (3 * c + 2) = C (14 + c) 2 ∧ (∃ t, t ≤ 9 ∧ C (14 + c) 1 = nI t) ∧ (∃ s, s ≤ 99 ∧ C (14 + c) 2 = nI s) ∧ C (14 + c) 3 = 0 ∧ C (14 + c) 4 = 0 ∧ C (14 + c) 5 = 0 ∧ C (14 + c) 6 = 0 ∧ C (14 + c) 8 = 0 ∧ C (14 + c) 9 = 0 ∧ C (14 + c) 10 = -1 ∧ C (14 + c) 11 = 0
def cFirsts (v : LV) : LV := upd (upd (upd (upd (upd (upd v 0 5) 1 40) 2 2) 3 12) 4 30) 5 6
theorem cFirsts_k (v : LV) {k : Nat} (hk : k < 6) : cFirsts v k = mFirsts k := by
  rcases (show k = 0 ∨ k = 1 ∨ k = 2 ∨ k = 3 ∨ k = 4 ∨ k = 5 by omega) with rfl | rfl | rfl | rfl | rfl | rfl <;> rfl
theorem t_clear (C : tm_M) : f_X8_clear C 11 = some (tm_sr (tm_sr C 12 (cFirsts (C 12))) 11 (upd (upd (C 11) 2 0) 3 0)) := by
  unfold f_X8_clear f_X6_clear
  rw [tm_gd_t (by decide), tm_gd_t (by decide), tm_gd_t (by decide)]
  simp only [Option.bind_some, tm_st_sr, tm_sr_sr, tm_sr_at]
  rw [tm_sr_ne _ _ (show (11 : Nat) ≠ 11 + 1 by decide)]
  rfl
def lBeg (v : LV) (x p s : Int32) : LV := upd (upd (upd (upd (upd (upd (upd (upd (upd (upd (upd (upd v 0 x) 1 p) 2 s) 3 0) 4 0) 5 0) 6 0) 7 0) 8 0) 9 0) 10 (-1)) 11 0
theorem t_beg {C : tm_M} {o o1 : Nat} {p s : Int32} (ho : tm_shp o = 0) (h1 : 0 < o1) (h2 : o1 < 143) : f_X1_begin C o o1 p s = some (tm_sr C o (lBeg (C o) (nI o1) p s)) := by
  unfold f_X1_begin
  rw [tm_gd_t ho, tm_gd_t ⟨h1, h2⟩]
  simp only [Option.bind_some, tm_st_sr, tm_sr_sr, tm_sr_at]
  rfl
theorem ra_7 : ∀ j, j < 4 → 0 < tm_ra 7 j ∧ tm_ra 7 j < 143 ∧ sKd (nI j) (nI (tm_ra 7 j)) := by
  intro j hj
  rcases (show j = 0 ∨ j = 1 ∨ j = 2 ∨ j = 3 by omega) with rfl | rfl | rfl | rfl
  · exact ⟨by decide, by decide, Or.inl ⟨rfl, rfl⟩⟩
  · exact ⟨by decide, by decide, Or.inr (Or.inl ⟨rfl, rfl⟩)⟩
  · exact ⟨by decide, by decide, Or.inr (Or.inr (Or.inl ⟨rfl, rfl⟩))⟩
  · exact ⟨by decide, by decide, Or.inr (Or.inr (Or.inr ⟨rfl, rfl⟩))⟩
theorem tell_1 {C : tm_M} {σ : tS} {w f s : Int32} (h : tolS C σ) (hok : okS σ w f s) : ∃ C' : tm_M, f_X9_tell C w f s = some C' ∧ tolS C' (stS σ w f s) ∧ ∀ a, (a < 11 ∨ 20 ≤ a) → C' a = C a := by
  obtain ⟨h6, h2, h3, hT, hO, hc⟩ := h
  obtain ⟨j, hj, rfl, hk1, hk2⟩ := hok
  have cj : (nI j).toNatClampNeg = j := nI_clamp (by omega)
  unfold f_X9_tell
  by_cases j0 : j = 0
  · subst j0
    rw [if_pos (show nI 0 = 0 from rfl), t_clear, Option.bind_some]
    refine ⟨_, rfl, ?_, fun a ha => by rw [tm_sr_ne _ _ (by omega), tm_sr_ne _ _ (by omega)]⟩
    unfold stS
    rw [cj, if_pos rfl]
    refine ⟨Nat.zero_le 6, ?_, ?_, fun k hk => ?_, ?_, fun c hc => absurd hc (Nat.not_lt_zero _)⟩
    · rw [tm_sr_at, pk_un (by decide), pk_us]; rfl
    · rw [tm_sr_at, pk_us]
    · rw [tm_sr_ne _ _ (by decide), tm_sr_at, cFirsts_k _ hk]
      show mFirsts k = frT σ.2.2 k
      unfold frT
      rw [if_pos hk]
    · rw [tm_sr_ne _ _ (by decide), tm_sr_at]
      exact ⟨⟨5, by decide, rfl⟩, ⟨40, by decide, rfl⟩, ⟨2, by decide, rfl⟩, ⟨6, by decide, rfl⟩⟩
  · have n0 : ¬ nI j = 0 := nI_ne0 (by omega) (by omega)
    have isC : f_X7_isCouple (nI j) = some (if j < 5 then 1 else 0) := by
      unfold f_X7_isCouple
      rw [if_neg (show ¬ nI j < 1 from nI_nlt (b := 1) (by omega) (by omega))]
      by_cases h2 : j < 5
      · rw [if_neg (show ¬ (5 : Int32) ≤ nI j from nI_ge (b := 5) h2 (by decide)), if_pos h2]
      · rw [if_pos (show (5 : Int32) ≤ nI j from nI_le (a := 5) (by omega) (by omega)), if_neg h2]
    rw [if_neg n0, isC, Option.bind_some]
    unfold stS
    rw [cj, if_neg j0]
    by_cases j5 : j < 5
    · have e1 : nI j - 1 = nI (j - 1) := pk_sub (b := 1) (by omega)
      have e2 : ¬ nI (j - 1) < 0 := nI_pos (by omega)
      obtain ⟨hc6, ⟨x, hx, rfl⟩, ⟨y, hy, rfl⟩⟩ := hk1 (by omega) j5
      obtain ⟨r1, r2, r3⟩ := ra_7 (j - 1) (by omega)
      have hs14 : tm_shp (14 + σ.1) = 0 := yS_11.2.2.2 σ.1 hc6
      rw [if_pos j5, if_neg (by decide), e1, Option.bind_some, if_neg e2, if_neg (show ¬ (4 : Int32) ≤ nI (j - 1) from nI_ge (b := 4) (by omega) (by decide)), tm_rdrN (by omega) (by decide), Option.bind_some, if_pos j5]
      unfold f_X8_join
      rw [tm_gd_t (by decide), h2, if_neg (nI_pos (by omega)), if_neg (show ¬ (6 : Int32) ≤ nI σ.1 from nI_ge (b := 6) hc6 (by decide)), tm_gd_t (by decide), rd_l yS_11 hc6, Option.bind_some, show 11 + 3 + σ.1 = 14 + σ.1 from rfl, tm_gd_t hs14, t_beg hs14 r1 r2, Option.bind_some, tm_sr_ne _ _ (show 11 ≠ 14 + σ.1 by omega), h2, nI_1, Option.bind_some, Option.bind_some]
      refine ⟨_, rfl, ⟨by show σ.1 + 1 ≤ 6; omega, ?_, ?_, fun k hk => ?_, ?_, fun c hc' => ?_⟩, fun a ha => ?_⟩
      · rw [tm_sta, pk_us]
      · rw [tm_sta, pk_un (by decide), tm_sr_ne _ _ (by omega)]; exact h3
      · rw [tm_stn _ _ _ (by decide), tm_sr_ne _ _ (by omega)]; exact hT k hk
      · rw [tm_stn _ _ _ (by decide), tm_sr_ne _ _ (by omega)]; exact hO
      · have hc'' : c < σ.1 + 1 := hc'
        rw [tm_stn _ _ _ (show 14 + c ≠ 11 by omega)]
        by_cases e : c = σ.1
        · subst e
          rw [tm_sr_at]
          show sKd (upd (upd (upd σ.2.1 (3 * σ.1) (nI (j - 1))) (3 * σ.1 + 1) (nI x)) (3 * σ.1 + 2) (nI y) (3 * σ.1)) _ ∧ upd (upd (upd σ.2.1 (3 * σ.1) (nI (j - 1))) (3 * σ.1 + 1) (nI x)) (3 * σ.1 + 2) (nI y) (3 * σ.1 + 1) = _ ∧ upd (upd (upd σ.2.1 (3 * σ.1) (nI (j - 1))) (3 * σ.1 + 1) (nI x)) (3 * σ.1 + 2) (nI y) (3 * σ.1 + 2) = _ ∧ _
          rw [pk_un (by omega), pk_un (by omega), pk_us, pk_un (by omega), pk_us, pk_us]
          exact ⟨r3, rfl, rfl, ⟨x, hx, rfl⟩, ⟨y, hy, rfl⟩, rfl, rfl, rfl, rfl, rfl, rfl, rfl, rfl⟩
        · rw [tm_sr_ne _ _ (show 14 + c ≠ 14 + σ.1 by omega)]
          show sKd (upd (upd (upd σ.2.1 (3 * σ.1) (nI (j - 1))) (3 * σ.1 + 1) (nI x)) (3 * σ.1 + 2) (nI y) (3 * c)) _ ∧ upd (upd (upd σ.2.1 (3 * σ.1) (nI (j - 1))) (3 * σ.1 + 1) (nI x)) (3 * σ.1 + 2) (nI y) (3 * c + 1) = _ ∧ upd (upd (upd σ.2.1 (3 * σ.1) (nI (j - 1))) (3 * σ.1 + 1) (nI x)) (3 * σ.1 + 2) (nI y) (3 * c + 2) = _ ∧ _
          rw [pk_un (by omega), pk_un (by omega), pk_un (by omega), pk_un (by omega), pk_un (by omega), pk_un (by omega), pk_un (by omega), pk_un (by omega), pk_un (by omega)]
          exact hc c (by omega)
      · rw [tm_stn _ _ _ (by omega), tm_sr_ne _ _ (by omega)]
    · have e5 : nI j - 5 = nI (j - 5) := pk_sub (b := 5) (by omega)
      obtain ⟨a, b, v, l1, l2, v1, v2, vb, rfl⟩ := hk2 (by omega)
      obtain ⟨a2, b2, l3, l4, -, hb, c0, c1, c2, c5⟩ := lm_b (k := j - 5) (by omega)
      have eb : b = b2 := (nI_eq (by omega) (by omega)).mp (l2.symm.trans l4)
      have hv : v ≤ b2 := by omega
      rw [if_neg j5, if_pos rfl, e5, x6_set (by decide) (by omega), Option.bind_some, if_neg j5]
      refine ⟨_, rfl, ⟨h6, ?_, ?_, fun k hk => ?_, ?_, fun c hc' => ?_⟩, fun a ha => tm_stn _ _ _ (by omega)⟩
      · rw [tm_stn _ _ _ (by decide)]; exact h2
      · rw [tm_stn _ _ _ (by decide)]; exact h3
      · rw [tm_sta]
        show upd (C 12) (j - 5) (nI v) k = upd σ.2.2 (j - 5) (nI v) k
        by_cases e : k = j - 5
        · rw [e, pk_us, pk_us]
        · rw [pk_un e, pk_un e]
          exact hT k hk
      · rw [tm_sta]
        exact tOK_set hO hv c0 c1 c2 c5
      · rw [tm_stn _ _ _ (by omega)]
        exact hc c hc'
theorem tell_L {k : Int32 → tm_M → Option (Int32 × tm_M)} {W F S : LV} {σ : tS} {m : Nat} {x : Int32} (hm : m ≤ 14) (hx : x = nI m) (hok : ∀ i, i < m → okS (foS W F S σ i) (W i) (F i) (S i)) : ∀ (j f i : Nat) (C : tm_M), i + j = m → j < f → C 4 = W → C 5 = F → C 6 = S → tolS C (foS W F S σ i) → ∃ C' : tm_M, f_X9_desk_L31 k x f (nI i) C = k (nI m) C' ∧ tolS C' (foS W F S σ m) ∧ ∀ a, (a < 11 ∨ 20 ≤ a) → C' a = C a := by
  subst hx
  intro j
  induction j with
  | zero =>
    intro f i C hi hf h4 h5 h6 hT
    obtain ⟨f, rfl⟩ : ∃ g, f = g + 1 := ⟨f - 1, by omega⟩
    have : i = m := by omega
    subst this
    exact ⟨C, by rw [f_X9_desk_L31, if_pos (nI_le (Nat.le_refl _) (by omega))], hT, fun _ _ => rfl⟩
  | succ j ih =>
    intro f i C hi hf h4 h5 h6 hT
    obtain ⟨f, rfl⟩ : ∃ g, f = g + 1 := ⟨f - 1, by omega⟩
    obtain ⟨C1, q1, q2, q3⟩ := tell_1 hT (hok i (by omega))
    obtain ⟨C', p1, p2, p3⟩ := ih f (i + 1) C1 (by omega) (by omega) ((q3 4 (by decide)).trans h4) ((q3 5 (by decide)).trans h5) ((q3 6 (by decide)).trans h6) q2
    refine ⟨C', ?_, p2, fun a ha => (p3 a ha).trans (q3 a ha)⟩
    rw [f_X9_desk_L31, if_neg (nI_ge (by omega) (by omega)), if_neg (show ¬ (14 : Int32) ≤ nI i from nI_ge (b := 14) (by omega) (by decide)), tm_rdN (by omega) (by decide), Option.bind_some, tm_rdN (by omega) (by decide), Option.bind_some, tm_rdN (by omega) (by decide), Option.bind_some, h4, h5, h6, q1, Option.bind_some, nI_1]
    exact p1
theorem c_begin {C : tm_M} {σ : tS} (h : tolS C σ) : ∃ C' : tm_M, f_X9_begin C = some C' ∧ (∀ i, i < σ.1 → lEq (C' (23 + i)) (C (14 + i))) ∧ (∀ k, k < 6 → C' 21 k = C 12 k) ∧ C' 20 2 = nI σ.1 ∧ C' 20 3 = 0 ∧ C' 48 0 = 0 ∧ C' 48 1 = 0 ∧ C' 0 8 = 0 ∧ C' 0 12 = 0 ∧ C' 0 7 = C 0 7 ∧ ∀ a, a ≠ 0 → a ≠ 48 → (a < 20 ∨ 29 ≤ a) → C' a = C a := by
  obtain ⟨h6, h2, h3, hT, hO, hc⟩ := h
  have hk : ∀ i, i < σ.1 → vK (C (11 + 3 + i)) := fun i hi => by
    obtain ⟨k0, -, -, -, -, -, k4, -, -, -, -, -, k11⟩ := hc i hi
    refine ⟨?_, Or.inl k4, Or.inl k11⟩
    show sKind (C (14 + i) 0)
    rcases k0 with ⟨-, q⟩ | ⟨-, q⟩ | ⟨-, q⟩ | ⟨-, q⟩
    · exact Or.inl q
    · exact Or.inr (Or.inl q)
    · exact Or.inr (Or.inr (Or.inl q))
    · exact Or.inr (Or.inr (Or.inr q))
  obtain ⟨C1, g1, g2, g3, g4, g5, g6⟩ := c_copyY (M := C) yS_20 yS_11 (by decide) h6 h2 hk
  refine ⟨tm_st (tm_st (tm_st (tm_st C1 48 0 0) 48 1 0) 0 8 0) 0 12 0, ?_, fun i hi => ?_, fun k hk => ?_, ?_, ?_, ?_, ?_, ?_, ?_, ?_, fun a h1 h2 h3 => ?_⟩
  · unfold f_X9_begin
    rw [g1, Option.bind_some, show (1000 : Nat) = 997 + 1 + 1 + 1 from rfl, f_X9_begin_L13, if_neg (by decide), show tm_wr C1 48 2 0 0 = some (tm_st C1 48 0 0) from tm_wrN (k := 0) (by decide) (by decide), Option.bind_some, f_X9_begin_L13, if_neg (by decide), show tm_wr (tm_st C1 48 0 0) 48 2 (0 + 1) 0 = some (tm_st (tm_st C1 48 0 0) 48 1 0) from tm_wrN (k := 1) (by decide) (by decide), Option.bind_some, f_X9_begin_L13, if_pos (by decide), Option.bind_some, Option.bind_some]
  · rw [tm_stn _ _ _ (by omega), tm_stn _ _ _ (by omega), tm_stn _ _ _ (by omega), tm_stn _ _ _ (by omega)]
    exact g2 i hi
  · rw [tm_stn _ _ _ (by omega), tm_stn _ _ _ (by omega), tm_stn _ _ _ (by omega), tm_stn _ _ _ (by omega)]
    exact g3 k hk
  · rw [tm_stn _ _ _ (by omega), tm_stn _ _ _ (by omega), tm_stn _ _ _ (by omega), tm_stn _ _ _ (by omega)]
    exact g4
  · rw [tm_stn _ _ _ (by omega), tm_stn _ _ _ (by omega), tm_stn _ _ _ (by omega), tm_stn _ _ _ (by omega)]
    exact g5.trans h3
  · rw [tm_stn _ _ _ (by omega), tm_stn _ _ _ (by omega), tm_sta, pk_un (by decide), tm_sta, pk_us]
  · rw [tm_stn _ _ _ (by omega), tm_stn _ _ _ (by omega), tm_sta, pk_us]
  · rw [tm_sta, pk_un (by decide), tm_sta, pk_us]
  · rw [tm_sta, pk_us]
  · rw [tm_sta, pk_un (by decide), tm_sta, pk_un (by decide), tm_stn _ _ _ (by omega), tm_stn _ _ _ (by omega), g6 0 (by decide)]
  · rw [tm_stn _ _ _ h1, tm_stn _ _ _ h1, tm_stn _ _ _ h2, tm_stn _ _ _ h2]
    exact g6 a h3
