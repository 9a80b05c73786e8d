/-! TEXTS: reading, of both -/
def foS (W F S : LV) (σ : tS) : Nat → tS
  | 0 => σ
  | k + 1 => stS (foS W F S σ k) (W k) (F k) (S k)
theorem foS_c {W F S W' F' S' : LV} {σ : tS} {n : Nat} (h : ∀ k, k < n → W' k = W k ∧ F' k = F k ∧ S' k = S k) : ∀ k, k ≤ n → foS W' F' S' σ k = foS W F S σ k
  | 0, _ => rfl
  | k + 1, hk => by
    obtain ⟨h1, h2, h3⟩ := h k (by omega)
    rw [foS, foS, foS_c h k (by omega), h1, h2, h3]
/-- all is read: i clauses, what they tell -/
def rdI (C N : tm_M) (σ : tS) (m cnt : Nat) : Prop := C 2 3 = nI m ∧ N 127 21 = nI m ∧ N 127 18 = nI cnt ∧ cnt ≤ 6 ∧ (cnt, N 140, N 141) = foS (C 4) (C 5) (C 6) σ m ∧ ∀ k, k < m → okS (foS (C 4) (C 5) (C 6) σ k) (C 4 k) (C 5 k) (C 6 k)
theorem rdI_t {C N : tm_M} {σ : tS} {m cnt : Nat} (b e b2 e2 : Int32) (h : rdI C N σ m cnt) : rdI (tC C b e) (tN N b2 e2) σ m cnt := by
  unfold rdI at h ⊢
  rw [tC_k _ _ _ (by decide) (by decide), tN_k _ _ _ (by decide) (by decide), tN_k _ _ _ (by decide) (by decide), tC_ne _ _ _ (show (4 : Nat) ≠ 2 by decide), tC_ne _ _ _ (show (5 : Nat) ≠ 2 by decide), tC_ne _ _ _ (show (6 : Nat) ≠ 2 by decide), tN_ne _ _ _ (show (140 : Nat) ≠ 127 by decide), tN_ne _ _ _ (show (141 : Nat) ≠ 127 by decide)]
  exact h
theorem rd_L {t : Nat} {L : LV} {w1 : Int32} {σ : tS} : ∀ (j f1 f2 i a cnt : Nat) (C N : tm_M) (b1 b2 : Int32), i + (j + 1) = 14 → j + 1 < f1 → j + 2 < f2 → xC C t L → xN N t L → R_tab N → a ≤ t → rdI C N σ i cnt →
    ∃ (r : Int32) (C' N' : tm_M), f_X7_read_L14 (fun v82 v83 M84 => some (M84 2 6, M84)) w1 f1 (nI cnt) (nI i) (tC C b1 (nI a)) = some (r, C') ∧ FrC C C' ∧ FrN N N' ∧
      ((∃ p, p < 1000 ∧ r = nI p ∧ f_X10_reads_L108 (fun v45 M46 => some (0, M46)) f2 1 (tN N b2 (nI a)) = some (0, N') ∧ N' 127 16 = nI p) ∨
       (r = -1 ∧ f_X10_reads_L108 (fun v45 M46 => some (0, M46)) f2 1 (tN N b2 (nI a)) = some (1, N') ∧ ∃ m cnt', m ≤ 14 ∧ rdI C' N' σ m cnt')) := by
  intro j
  induction j with
  | zero =>
    intro f1 f2 i a cnt C N b1 b2 hi hf1 hf2 hC hN hw ha hI
    obtain ⟨f1, rfl⟩ : ∃ g, f1 = g + 1 := ⟨f1 - 1, by omega⟩
    obtain ⟨f2, rfl⟩ : ∃ g, f2 = g + 1 := ⟨f2 - 1, by omega⟩
    have hi13 : i = 13 := by omega
    subst hi13
    have ht := hC.1
    obtain ⟨i1, i2, i3, i4, i5, i6⟩ := hI
    rcases cl_n (k := fun v82 v83 M84 => some (M84 2 6, M84)) (w1 := w1) (n := f1) (b1 := b1) (b2 := b2) hC hN hw ha i4 i3 (show 13 < 14 by decide) (fun k hk => (hw.2 k hk).1) with ⟨b, C', N', hb, q1, q2, q3, q4, q5⟩ | ⟨b, a', cnt', C', N', ha', hcnt', q1, q2, q3, q4, q5, q6, q7, q8, q9, q10⟩
    · refine ⟨nI b, C', N', q1, q4, q5, Or.inl ⟨b, by omega, rfl, ?_, q3⟩⟩
      rw [f_X10_reads_L108, if_neg (by decide), q2, Option.bind_some, if_pos rfl]
    · have hw4 : ∀ k, k < 13 → C' 4 k = C 4 k ∧ C' 5 k = C 5 k ∧ C' 6 k = C 6 k := fun k hk => q4 k (by omega)
      have hI' : rdI C' (tm_st N' 127 21 (nI (13 + 1))) σ (13 + 1) cnt' := by
        refine ⟨q3, by rw [tm_sta, pk_us], by rw [tm_sta, pk_un (by decide)]; exact q7, hcnt', ?_, fun k hk => ?_⟩
        · rw [foS, foS_c hw4 13 (Nat.le_refl _), ← i5, tm_stn _ _ _ (show (140 : Nat) ≠ 127 by decide), tm_stn _ _ _ (show (141 : Nat) ≠ 127 by decide)]
          exact q6
        · by_cases e : k = 13
          · subst e
            rw [foS_c hw4 13 (Nat.le_refl _), ← i5]
            exact q5
          · obtain ⟨z1, z2, z3⟩ := hw4 k (by omega)
            rw [foS_c hw4 k (by omega), z1, z2, z3]
            exact i6 k (by omega)
      have hN2 : xN (tm_st N' 127 21 (nI (13 + 1))) t L := xN_f (FrN.s _ _ (by omega)) (xN_f q10 hN)
      have hC2 : xC C' t L := xC_f q9 hC
      obtain ⟨bb, ee, p1, p2, p3, p4, p5, p6, p7⟩ := tk_n (b1 := nI b) (b2 := nI b) hC2 hN2 ha'
      have hcx : f_X7_read_L14 (fun v82 v83 M84 => some (M84 2 6, M84)) w1 (f1 + 1) (nI cnt) (nI 13) (tC C b1 (nI a)) = if bb < t then some (nI bb, tC C' (nI bb) (nI ee)) else some (-1, tC C' (nI bb) (nI ee)) := by
        rw [q1]
        unfold tT
        rw [p6, Option.bind_some, tC_26, (xC_t hC2 _ _).2.1]
        by_cases z : bb < t
        · rw [if_pos (nI_lt z (by omega)), if_pos z, x_let (xC_t hC2 _ _) (by omega), if_pos z, Option.bind_some]
          by_cases z2 : L bb = 59
          · obtain ⟨f1, rfl⟩ : ∃ g, f1 = g + 1 := ⟨f1 - 1, by omega⟩
            rw [if_pos z2, f_X7_read_L14, if_pos (by decide), tC_26]
          · rw [if_neg z2]
        · rw [if_neg (nI_nlt (by omega) (by omega)), if_neg z]
      have hmx : f_X10_reads_L108 (fun v45 M46 => some (0, M46)) (f2 + 1) 1 (tN N b2 (nI a)) = if bb < t then some (0, tN (tm_st N' 127 21 (nI (13 + 1))) (nI bb) (nI ee)) else some (1, tN (tm_st N' 127 21 (nI (13 + 1))) (nI bb) (nI ee)) := by
        rw [f_X10_reads_L108, if_neg (by decide), q2, Option.bind_some, if_neg (show ¬ (1 : Int32) = 0 by decide)]
        dsimp only
        rw [tN_k _ _ _ (by decide) (by decide), q8, i2, nI_1, Option.bind_some, tN_s3 _ _ _ (by decide) (by decide), p7, Option.bind_some, tN_16, (xN_t hN2 _ _).2.1]
        by_cases z : bb < t
        · rw [if_neg (nI_ge z (by omega)), if_pos z, tm_rdN (by omega) (by decide), Option.bind_some, (xN_t hN2 _ _).2.2 bb z]
          by_cases z2 : L bb = 59
          · rw [if_pos z2, tN_k _ _ _ (by decide) (by decide), tm_sta, pk_us, if_pos (by decide)]
          · rw [if_neg z2]
        · obtain ⟨f2, rfl⟩ : ∃ g, f2 = g + 1 := ⟨f2 - 1, by omega⟩
          rw [if_pos (nI_le (by omega) (by omega)), if_neg z, f_X10_reads_L108, if_pos rfl]
      by_cases z : bb < t
      · rw [if_pos z] at hcx hmx
        exact ⟨nI bb, _, _, hcx, q9.tr (FrC.t _ _ _), (q10.tr (FrN.s _ _ (by omega))).tr (FrN.t _ _ _), Or.inl ⟨bb, by omega, rfl, hmx, tN_16 _ _ _⟩⟩
      · rw [if_neg z] at hcx hmx
        exact ⟨-1, _, _, hcx, q9.tr (FrC.t _ _ _), (q10.tr (FrN.s _ _ (by omega))).tr (FrN.t _ _ _), Or.inr ⟨rfl, hmx, 13 + 1, cnt', by decide, rdI_t _ _ _ _ hI'⟩⟩
  | succ j ih =>
    intro f1 f2 i a cnt C N b1 b2 hi hf1 hf2 hC hN hw ha hI
    obtain ⟨f1, rfl⟩ : ∃ g, f1 = g + 1 := ⟨f1 - 1, by omega⟩
    obtain ⟨f2, rfl⟩ : ∃ g, f2 = g + 1 := ⟨f2 - 1, by omega⟩
    have ht := hC.1
    obtain ⟨i1, i2, i3, i4, i5, i6⟩ := hI
    rcases cl_n (k := fun v82 v83 M84 => some (M84 2 6, M84)) (w1 := w1) (n := f1) (b1 := b1) (b2 := b2) hC hN hw ha i4 i3 (show i < 14 by omega) (fun k hk => (hw.2 k hk).1) with ⟨b, C', N', hb, q1, q2, q3, q4, q5⟩ | ⟨b, a', cnt', C', N', ha', hcnt', q1, q2, q3, q4, q5, q6, q7, q8, q9, q10⟩
    · refine ⟨nI b, C', N', q1, q4, q5, Or.inl ⟨b, by omega, rfl, ?_, q3⟩⟩
      rw [f_X10_reads_L108, if_neg (by decide), q2, Option.bind_some, if_pos rfl]
    · have hw4 : ∀ k, k < i → C' 4 k = C 4 k ∧ C' 5 k = C 5 k ∧ C' 6 k = C 6 k := fun k hk => q4 k (by omega)
      have hI' : rdI C' (tm_st N' 127 21 (nI (i + 1))) σ (i + 1) cnt' := by
        refine ⟨q3, by rw [tm_sta, pk_us], by rw [tm_sta, pk_un (by decide)]; exact q7, hcnt', ?_, fun k hk => ?_⟩
        · rw [foS, foS_c hw4 i (Nat.le_refl _), ← i5, tm_stn _ _ _ (show (140 : Nat) ≠ 127 by decide), tm_stn _ _ _ (show (141 : Nat) ≠ 127 by decide)]
          exact q6
        · by_cases e : k = i
          · subst e
            rw [foS_c hw4 k (Nat.le_refl _), ← i5]
            exact q5
          · obtain ⟨z1, z2, z3⟩ := hw4 k (by omega)
            rw [foS_c hw4 k (by omega), z1, z2, z3]
            exact i6 k (by omega)
      have hN2 : xN (tm_st N' 127 21 (nI (i + 1))) t L := xN_f (FrN.s _ _ (by omega)) (xN_f q10 hN)
      have hC2 : xC C' t L := xC_f q9 hC
      have hw2 : R_tab (tm_st N' 127 21 (nI (i + 1))) := fr_tab (fun a h1 h2 => by rw [tm_stn _ _ _ (by omega), q10.1 a (by omega) (by omega) (by omega)]) hw
      obtain ⟨bb, ee, p1, p2, p3, p4, p5, p6, p7⟩ := tk_n (b1 := nI b) (b2 := nI b) hC2 hN2 ha'
      have hcx : f_X7_read_L14 (fun v82 v83 M84 => some (M84 2 6, M84)) w1 (f1 + 1) (nI cnt) (nI i) (tC C b1 (nI a)) = if bb < t then (if L bb = 59 then f_X7_read_L14 (fun v82 v83 M84 => some (M84 2 6, M84)) w1 f1 (nI cnt') (nI (i + 1)) (tC C' (nI bb) (nI ee)) else some (nI bb, tC C' (nI bb) (nI ee))) else some (-1, tC C' (nI bb) (nI ee)) := by
        rw [q1]
        unfold tT
        rw [p6, Option.bind_some, tC_26, (xC_t hC2 _ _).2.1]
        by_cases z : bb < t
        · rw [if_pos (nI_lt z (by omega)), if_pos z, x_let (xC_t hC2 _ _) (by omega), if_pos z, Option.bind_some]
        · rw [if_neg (nI_nlt (by omega) (by omega)), if_neg z]
      have hmx : f_X10_reads_L108 (fun v45 M46 => some (0, M46)) (f2 + 1) 1 (tN N b2 (nI a)) = if bb < t then (if L bb = 59 then f_X10_reads_L108 (fun v45 M46 => some (0, M46)) f2 1 (tN (tm_st N' 127 21 (nI (i + 1))) (nI bb) (nI ee)) else some (0, tN (tm_st N' 127 21 (nI (i + 1))) (nI bb) (nI ee))) else some (1, tN (tm_st N' 127 21 (nI (i + 1))) (nI bb) (nI ee)) := by
        rw [f_X10_reads_L108, if_neg (by decide), q2, Option.bind_some, if_neg (show ¬ (1 : Int32) = 0 by decide)]
        dsimp only
        rw [tN_k _ _ _ (by decide) (by decide), q8, i2, nI_1, Option.bind_some, tN_s3 _ _ _ (by decide) (by decide), p7, Option.bind_some, tN_16, (xN_t hN2 _ _).2.1]
        by_cases z : bb < t
        · rw [if_neg (nI_ge z (by omega)), if_pos z, tm_rdN (by omega) (by decide), Option.bind_some, (xN_t hN2 _ _).2.2 bb z]
          by_cases z2 : L bb = 59
          · have n14 : ¬ nI (i + 1) = 14 := fun e => by have := (nI_eq (b := 14) (by omega) (by decide)).mp e; omega
            rw [if_pos z2, if_pos z2, tN_k _ _ _ (by decide) (by decide), tm_sta, pk_us, if_neg n14]
          · rw [if_neg z2, if_neg z2]
        · obtain ⟨f2, rfl⟩ : ∃ g, f2 = g + 1 := ⟨f2 - 1, by omega⟩
          rw [if_pos (nI_le (by omega) (by omega)), if_neg z, f_X10_reads_L108, if_pos rfl]
      by_cases z : bb < t
      · rw [if_pos z] at hcx hmx
        by_cases z2 : L bb = 59
        · rw [if_pos z2] at hcx hmx
          obtain ⟨r, C3, N3, s1, s2, s3, s4⟩ := ih f1 f2 (i + 1) ee cnt' C' (tm_st N' 127 21 (nI (i + 1))) (nI bb) (nI bb) (by omega) (by omega) (by omega) hC2 hN2 hw2 p3 hI'
          rw [hcx, hmx]
          exact ⟨r, C3, N3, s1, q9.tr s2, (q10.tr (FrN.s _ _ (by omega))).tr s3, s4⟩
        · rw [if_neg z2] at hcx hmx
          exact ⟨nI bb, _, _, hcx, q9.tr (FrC.t _ _ _), (q10.tr (FrN.s _ _ (by omega))).tr (FrN.t _ _ _), Or.inl ⟨bb, by omega, rfl, hmx, tN_16 _ _ _⟩⟩
      · rw [if_neg z] at hcx hmx
        exact ⟨-1, _, _, hcx, q9.tr (FrC.t _ _ _), (q10.tr (FrN.s _ _ (by omega))).tr (FrN.t _ _ _), Or.inr ⟨rfl, hmx, i + 1, cnt', by omega, rdI_t _ _ _ _ hI'⟩⟩
/-- the reference lays what was told beside its reading -/
theorem pr_1 {N : tm_M} {n : Nat} {k : Int32 → tm_M → Option (Int32 × tm_M)} (hn : n ≤ 6) (h7 : N 127 7 = nI n) : ∀ (j f i : Nat) (P : LV), i + j = n → j < f → (∀ c, c < i → P (3 * c) = N 134 c ∧ P (3 * c + 1) = N 135 c ∧ P (3 * c + 2) = N 136 c) → ∃ P' : LV, f_X10_reads_L10 k f (nI i) (tm_sr N 140 P) = k (nI n) (tm_sr N 140 P') ∧ ∀ c, c < n → P' (3 * c) = N 134 c ∧ P' (3 * c + 1) = N 135 c ∧ P' (3 * c + 2) = N 136 c := by
  intro j
  induction j with
  | zero =>
    intro f i P hi hf hP
    obtain ⟨f, rfl⟩ : ∃ g, f = g + 1 := ⟨f - 1, by omega⟩
    have : i = n := by omega
    subst this
    exact ⟨P, by rw [f_X10_reads_L10, tm_sr_ne _ _ (show (127 : Nat) ≠ 140 by decide), h7, if_pos (nI_le (Nat.le_refl _) (by omega))], hP⟩
  | succ j ih =>
    intro f i P hi hf hP
    obtain ⟨f, rfl⟩ : ∃ g, f = g + 1 := ⟨f - 1, by omega⟩
    have e3 : (3 : Int32) * nI i = nI (3 * i) := pk_mul 3 i
    have rdk : ∀ (Q : LV) (o : Nat), o ≠ 140 → tm_rd (tm_sr N 140 Q) o 6 (nI i) = some (N o i) := fun Q o ho => by rw [tm_rdN (by omega) (by decide), tm_sr_ne _ _ ho]
    have wrk : ∀ (Q : LV) (p : Nat) (x : Int32), p < 18 → tm_wr (tm_sr N 140 Q) 140 18 (nI p) x = some (tm_sr N 140 (upd Q p x)) := fun Q p x hp => by rw [tm_wrN hp (by decide), tm_st_sr, tm_sr_sr, tm_sr_at]
    rw [f_X10_reads_L10, tm_sr_ne _ _ (show (127 : Nat) ≠ 140 by decide), h7, if_neg (nI_ge (by omega) (by omega)), e3, rdk P 134 (by decide), Option.bind_some, wrk _ _ _ (by omega), Option.bind_some, rdk _ 135 (by decide), Option.bind_some, nI_1, nI_1, wrk _ _ _ (by omega), Option.bind_some, rdk _ 136 (by decide), Option.bind_some, show nI (3 * i) + 2 = nI (3 * i + 2) from nI_add _ 2, wrk _ _ _ (by omega), Option.bind_some]
    refine ih f (i + 1) _ (by omega) (by omega) (fun c hc => ?_)
    by_cases e : c = i
    · subst e
      rw [pk_un (by omega), pk_un (by omega), pk_us, pk_un (by omega), pk_us, pk_us]
      exact ⟨rfl, rfl, rfl⟩
    · rw [pk_un (by omega), pk_un (by omega), pk_un (by omega), pk_un (by omega), pk_un (by omega), pk_un (by omega), pk_un (by omega), pk_un (by omega), pk_un (by omega)]
      exact hP c (by omega)
theorem pr_2 {N : tm_M} {k : Int32 → tm_M → Option (Int32 × tm_M)} : ∀ (j f i : Nat) (P : LV), i + j = 6 → j < f → (∀ c, c < i → P c = N 137 c) → ∃ P' : LV, f_X10_reads_L72 k f (nI i) (tm_sr N 141 P) = k (nI 6) (tm_sr N 141 P') ∧ ∀ c, c < 6 → P' c = N 137 c := by
  intro j
  induction j with
  | zero =>
    intro f i P hi hf hP
    obtain ⟨f, rfl⟩ : ∃ g, f = g + 1 := ⟨f - 1, by omega⟩
    have : i = 6 := by omega
    subst this
    exact ⟨P, by rw [f_X10_reads_L72, if_pos (by decide)], hP⟩
  | succ j ih =>
    intro f i P hi hf hP
    obtain ⟨f, rfl⟩ : ∃ g, f = g + 1 := ⟨f - 1, by omega⟩
    rw [f_X10_reads_L72, if_neg (show ¬ (6 : Int32) ≤ nI i from nI_ge (b := 6) (by omega) (by decide)), tm_rdN (by omega) (by decide), Option.bind_some, tm_sr_ne _ _ (show (137 : Nat) ≠ 141 by decide), tm_wrN (by omega) (by decide), Option.bind_some, tm_st_sr, tm_sr_sr, tm_sr_at, nI_1]
    refine ih f (i + 1) _ (by omega) (by omega) (fun c hc => ?_)
    by_cases e : c = i
    · subst e
      rw [pk_us]
    · rw [pk_un e]
      exact hP c (by omega)
theorem st_27 (C : tm_M) (x : Int32) : tm_st C 2 7 x = tC C (C 2 6) x := by
  unfold tC
  rw [tm_up_same, tm_st_sr]
theorem st_17 (C : tm_M) (x : Int32) : tm_st C 127 17 x = tN C (C 127 16) x := by
  unfold tN
  rw [tm_up_same, tm_st_sr]
/-- both read -/
theorem rd_both {C N : tm_M} {n : Nat} (hR : Rel C N n) : ∃ (r : Int32) (C' N' : tm_M) (cp tm : LV), f_X7_read C (C 11 2) = some (r, C') ∧ FrC C C' ∧ FrN N N' ∧ (∀ c, c < n → cp (3 * c) = N 134 c ∧ cp (3 * c + 1) = N 135 c ∧ cp (3 * c + 2) = N 136 c) ∧ (∀ k, k < 6 → tm k = N 137 k) ∧
      ((∃ p, p < 1000 ∧ r = nI p ∧ f_X10_reads N = some (0, N') ∧ N' 127 16 = nI p) ∨
       (r = -1 ∧ f_X10_reads N = some (1, N') ∧ ∃ m cnt, m ≤ 14 ∧ rdI C' N' (n, cp, tm) m cnt)) := by
  obtain ⟨hn, h7, ⟨t1, -⟩, -, -, -, -, ⟨t, ht, x1, x2, x3⟩, hw⟩ := hR
  obtain ⟨P, a1, a2⟩ := pr_1 (N := tm_st N 127 18 (nI n)) (k := fun v16 M17 => f_X10_reads_L72 (fun v23 M24 => (some (tm_st M24 127 17 0)).bind fun M25 => (some (tm_st M25 127 21 0)).bind fun M27 => f_X10_reads_L108 (fun v45 M46 => some (0, M46)) 1000 1 M27) 1000 0 M17) hn (by rw [tm_sta, pk_un (by decide)]; exact h7) n 1000 0 (tm_st N 127 18 (nI n) 140) (by omega) (by omega) (fun c hc => absurd hc (Nat.not_lt_zero _))
  rw [tm_sr_self] at a1
  obtain ⟨Q, b1, b2⟩ := pr_2 (N := tm_sr (tm_st N 127 18 (nI n)) 140 P) (k := fun v23 M24 => (some (tm_st M24 127 17 0)).bind fun M25 => (some (tm_st M25 127 21 0)).bind fun M27 => f_X10_reads_L108 (fun v45 M46 => some (0, M46)) 1000 1 M27) 6 1000 0 (tm_sr (tm_st N 127 18 (nI n)) 140 P 141) (by omega) (by omega) (fun c hc => absurd hc (Nat.not_lt_zero _))
  rw [tm_sr_self] at b1
  have hfr : FrN N (tm_sr (tm_sr (tm_st N 127 18 (nI n)) 140 P) 141 Q) := by
    refine FrN.tr (FrN.s N (o := 127) (k := 18) (nI n) (by omega)) ⟨fun a _ h1 h2 => by rw [tm_sr_ne _ _ h2, tm_sr_ne _ _ h1], ?_, ?_, ?_, ?_⟩ <;> rw [tm_sr_ne _ _ (by decide), tm_sr_ne _ _ (by decide)]
  have hmr : f_X10_reads N = f_X10_reads_L108 (fun v45 M46 => some (0, M46)) 1000 1 (tN (tm_st (tm_sr (tm_sr (tm_st N 127 18 (nI n)) 140 P) 141 Q) 127 21 0) (tm_sr (tm_sr (tm_st N 127 18 (nI n)) 140 P) 141 Q 127 16) 0) := by
    unfold f_X10_reads
    rw [h7, Option.bind_some]
    refine Eq.trans a1 ?_
    refine Eq.trans b1 ?_
    show ((some (tm_st (tm_sr (tm_sr (tm_st N 127 18 (nI n)) 140 P) 141 Q) 127 17 0)).bind fun M25 => _) = _
    rw [Option.bind_some, st_17, Option.bind_some, tN_s3 _ _ _ (by decide) (by decide)]
  have hn18 : tm_sr (tm_sr (tm_st N 127 18 (nI n)) 140 P) 141 Q 127 18 = nI n := by rw [tm_sr_ne _ _ (by decide), tm_sr_ne _ _ (by decide), tm_sta, pk_us]
  have hn140 : tm_sr (tm_sr (tm_st N 127 18 (nI n)) 140 P) 141 Q 140 = P := by rw [tm_sr_ne _ _ (by decide), tm_sr_at]
  have hn141 : tm_sr (tm_sr (tm_st N 127 18 (nI n)) 140 P) 141 Q 141 = Q := tm_sr_at _ _ _
  generalize tm_sr (tm_sr (tm_st N 127 18 (nI n)) 140 P) 141 Q = N0 at hfr hmr hn18 hn140 hn141
  have hC0 : xC C t (C 3) := ⟨ht, x1, fun k _ => rfl⟩
  have hN0 : xN N t (C 3) := ⟨ht, x2, fun k hk => (x3 k hk).symm⟩
  have hfr2 : FrN N (tm_st N0 127 21 0) := hfr.tr (FrN.s _ _ (by omega))
  have hfc : FrC C (tm_st C 2 3 0) := FrC.s _ _ (by omega)
  obtain ⟨r, C', N', s1, s2, s3, s4⟩ := rd_L (w1 := nI n) (σ := (n, P, Q)) 13 1000 1000 0 0 n (tm_st C 2 3 0) (tm_st N0 127 21 0) (tm_st C 2 3 0 2 6) (N0 127 16) (by omega) (by omega) (by omega) (xC_f hfc hC0) (xN_f hfr2 hN0) (fr_tab (fun a h1 h2 => hfr2.1 a (by omega) (by omega) (by omega)) hw) (Nat.zero_le _) ⟨by rw [tm_sta, pk_us]; rfl, by rw [tm_sta, pk_us]; rfl, by rw [tm_sta, pk_un (by decide)]; exact hn18, hn, by rw [tm_stn _ _ _ (by decide), tm_stn _ _ _ (by decide), hn140, hn141]; rfl, fun k hk => absurd hk (Nat.not_lt_zero _)⟩
  refine ⟨r, C', N', P, Q, ?_, hfc.tr s2, hfr2.tr s3, fun c hc => ?_, fun k hk => ?_, ?_⟩
  · unfold f_X7_read
    rw [t1, Option.bind_some, st_27, Option.bind_some]
    exact s1
  · obtain ⟨z1, z2, z3⟩ := a2 c hc
    rw [tm_stn _ _ _ (by decide)] at z1 z2 z3
    exact ⟨z1, z2, z3⟩
  · rw [b2 k hk, tm_sr_ne _ _ (by decide), tm_stn _ _ _ (by decide)]
  · rw [hmr]
    exact s4
theorem sc_FrC {C C' : tm_M} (h : FrC C C') : scC C C' := ⟨fun a _ q1 q2 q3 q4 => h.1 a q1 q2 q3 q4, h.2⟩
theorem sc_FrN {N N' : tm_M} (h : FrN N N') : scN N N' := ⟨fun a h1 h2 h3 h4 h5 => h.1 a (by omega) h3 h4, h.2.1, h.2.2.1, h.2.2.2.1, h.2.2.2.2, fun p _ => by rw [h.1 132 (by decide) (by decide) (by decide)]⟩
theorem o_fault : oOK (fun C => f_X9_fault C) (fun N => f_X10_fault N) := by
  refine oOK_sc (fun C N n hR => ?_)
  obtain ⟨r, C', N', cp, tm, q1, q2, q3, -, -, q4⟩ := rd_both hR
  refine ⟨r, C', N', ?_, ?_, sc_FrC q2, sc_FrN q3, fun a ha => q2.1 a (by omega) (by omega) (by omega) (by omega), fun a ha => q3.1 a (by omega) (by omega) (by omega)⟩
  · simp only [f_X9_fault, q1, Option.bind_some]
  · rcases q4 with ⟨p, -, rfl, g1, g2⟩ | ⟨rfl, g1, -⟩
    · simp only [f_X10_fault, g1, Option.bind_some, g2, if_true]
    · simp only [f_X10_fault, g1, Option.bind_some]
      rw [if_neg (by decide)]
