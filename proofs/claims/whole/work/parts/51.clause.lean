/-! TEXTS: a clause, of both -/
theorem tC_st (C : tm_M) (b e : Int32) {o k : Nat} {x : Int32} (h : o ≠ 2) : tm_st (tC C b e) o k x = tC (tm_st C o k x) b e := by
  unfold tC
  rw [sr_st h, tm_stn _ _ _ (fun e => h e.symm)]
theorem tN_st (C : tm_M) (b e : Int32) {o k : Nat} {x : Int32} (h : o ≠ 127) : tm_st (tN C b e) o k x = tN (tm_st C o k x) b e := by
  unfold tN
  rw [sr_st h, tm_stn _ _ _ (fun e => h e.symm)]
theorem tC_s3 (C : tm_M) (b e : Int32) {k : Nat} {x : Int32} (h6 : k ≠ 6) (h7 : k ≠ 7) : tm_st (tC C b e) 2 k x = tC (tm_st C 2 k x) b e := by
  unfold tC
  rw [tm_st_sr, tm_sr_sr, tm_sr_at, tm_st_sr, tm_sr_sr, tm_sr_at]
  congr 1
  funext j
  unfold upd
  by_cases e1 : j = k
  · rw [if_pos e1, if_neg (by omega), if_neg (by omega), if_pos e1]
  · rw [if_neg e1]
    split
    · rfl
    · split <;> rfl
theorem tN_s3 (C : tm_M) (b e : Int32) {k : Nat} {x : Int32} (h6 : k ≠ 16) (h7 : k ≠ 17) : tm_st (tN C b e) 127 k x = tN (tm_st C 127 k x) b e := by
  unfold tN
  rw [tm_st_sr, tm_sr_sr, tm_sr_at, tm_st_sr, tm_sr_sr, tm_sr_at]
  congr 1
  funext j
  unfold upd
  by_cases e1 : j = k
  · rw [if_pos e1, if_neg (by omega), if_neg (by omega), if_pos e1]
  · rw [if_neg e1]
    split
    · rfl
    · split <;> rfl
def FrC (C C' : tm_M) : Prop := (∀ a, a ≠ 2 → a ≠ 4 → a ≠ 5 → a ≠ 6 → C' a = C a) ∧ C' 2 4 = C 2 4
def FrN (N N' : tm_M) : Prop := (∀ a, a ≠ 127 → a ≠ 140 → a ≠ 141 → N' a = N a) ∧ N' 127 5 = N 127 5 ∧ N' 127 7 = N 127 7 ∧ N' 127 13 = N 127 13 ∧ N' 127 15 = N 127 15
theorem FrC.rf (C : tm_M) : FrC C C := ⟨fun _ _ _ _ _ => rfl, rfl⟩
theorem FrN.rf (N : tm_M) : FrN N N := ⟨fun _ _ _ _ => rfl, rfl, rfl, rfl, rfl⟩
theorem FrC.tr {A B C : tm_M} (h : FrC A B) (h2 : FrC B C) : FrC A C := ⟨fun a q1 q2 q3 q4 => (h2.1 a q1 q2 q3 q4).trans (h.1 a q1 q2 q3 q4), h2.2.trans h.2⟩
theorem FrN.tr {A B C : tm_M} (h : FrN A B) (h2 : FrN B C) : FrN A C := ⟨fun a q1 q2 q3 => (h2.1 a q1 q2 q3).trans (h.1 a q1 q2 q3), h2.2.1.trans h.2.1, h2.2.2.1.trans h.2.2.1, h2.2.2.2.1.trans h.2.2.2.1, h2.2.2.2.2.trans h.2.2.2.2⟩
theorem FrC.t (C : tm_M) (b e : Int32) : FrC C (tC C b e) := ⟨fun a h _ _ _ => tC_ne _ _ _ h, tC_k _ _ _ (by decide) (by decide)⟩
theorem FrN.t (C : tm_M) (b e : Int32) : FrN C (tN C b e) := ⟨fun a h _ _ => tN_ne _ _ _ h, tN_k _ _ _ (by decide) (by decide), tN_k _ _ _ (by decide) (by decide), tN_k _ _ _ (by decide) (by decide), tN_k _ _ _ (by decide) (by decide)⟩
theorem FrC.s (C : tm_M) {o k : Nat} (x : Int32) (h : o = 4 ∨ o = 5 ∨ o = 6 ∨ (o = 2 ∧ k ≠ 4)) : FrC C (tm_st C o k x) := by
  refine ⟨fun a q1 q2 q3 q4 => tm_stn _ _ _ (by omega), ?_⟩
  by_cases e : o = 2
  · subst e
    rw [tm_sta, pk_un (by omega)]
  · rw [tm_stn _ _ _ (fun z => e z.symm)]
theorem FrN.s (C : tm_M) {o k : Nat} (x : Int32) (h : o = 140 ∨ o = 141 ∨ (o = 127 ∧ 16 ≤ k)) : FrN C (tm_st C o k x) := by
  have e : ∀ j, j < 16 → tm_st C o k x 127 j = C 127 j := fun j hj => by
    by_cases e : o = 127
    · subst e
      rw [tm_sta, pk_un (by omega)]
    · rw [tm_stn _ _ _ (fun z => e z.symm)]
  exact ⟨fun a q1 q2 q3 => tm_stn _ _ _ (by omega), e 5 (by decide), e 7 (by decide), e 13 (by decide), e 15 (by decide)⟩
theorem xC_f {C C' : tm_M} {t : Nat} {L : LV} (h : FrC C C') (hx : xC C t L) : xC C' t L := ⟨hx.1, h.2.trans hx.2.1, fun k hk => by rw [h.1 3 (by decide) (by decide) (by decide) (by decide)]; exact hx.2.2 k hk⟩
theorem xN_f {C C' : tm_M} {t : Nat} {L : LV} (h : FrN C C') (hx : xN C t L) : xN C' t L := ⟨hx.1, h.2.2.2.1.trans hx.2.1, fun k hk => by rw [h.1 138 (by decide) (by decide) (by decide)]; exact hx.2.2 k hk⟩
/-- what a clause does to what is told: how many couples, the couples, the terms -/
abbrev tS : Type := Nat × LV × LV
def frT (T : LV) : LV := fun k => if k < 6 then mFirsts k else T k
def stS (σ : tS) (w f s : Int32) : tS :=
  if w.toNatClampNeg = 0 then (0, σ.2.1, frT σ.2.2)
  else if w.toNatClampNeg < 5 then (σ.1 + 1, upd (upd (upd σ.2.1 (3 * σ.1) (nI (w.toNatClampNeg - 1))) (3 * σ.1 + 1) f) (3 * σ.1 + 2) s, σ.2.2)
  else (σ.1, σ.2.1, upd σ.2.2 (w.toNatClampNeg - 5) f)
def okS (σ : tS) (w f s : Int32) : Prop := ∃ j, j < 11 ∧ w = nI j ∧ (1 ≤ j → j < 5 → σ.1 < 6 ∧ (∃ x, x ≤ 9 ∧ f = nI x) ∧ ∃ x, x ≤ 99 ∧ s = nI x) ∧ (5 ≤ j → ∃ a b v, tm_least (j - 5) = nI a ∧ tm_most (j - 5) = nI b ∧ a ≤ v ∧ v ≤ b ∧ b < 100 ∧ f = nI v)
/-- the rest of the class's loop behind a clause -/
def tT (k : Int32 → Int32 → tm_M → Option (Int32 × tm_M)) (w1 : Int32) (n : Nat) (v2 v3 : Int32) (M : tm_M) : Option (Int32 × tm_M) :=
  (f_X7_nextToken M).bind fun M43 => if (M43 2 6) < (M43 2 4) then (f_X7_letterAt M43 (M43 2 6)).bind fun r45 => if r45 = 59 then f_X7_read_L14 k w1 n v2 v3 M43 else some (M43 2 6, M43) else some ((-1), M43)
theorem rf_L {k : Int32 → tm_M → Option tm_M} {N : tm_M} (ht : ∀ k, k < 6 → N 129 k = mFirsts k) : ∀ (j f i : Nat) (T : LV), i + j = 6 → j < f → (∀ k, k < i → T k = mFirsts k) → ∃ T' : LV, f_X10_readFirst_L7 k f (nI i) (tm_sr N 141 T) = k (nI 6) (tm_sr N 141 T') ∧ (∀ k, k < 6 → T' k = mFirsts k) ∧ ∀ k, 6 ≤ k → T' k = T k := by
  intro j
  induction j with
  | zero =>
    intro f i T hi hf hT
    obtain ⟨f, rfl⟩ : ∃ g, f = g + 1 := ⟨f - 1, by omega⟩
    have : i = 6 := by omega
    subst this
    exact ⟨T, by rw [f_X10_readFirst_L7, if_pos (by decide)], hT, fun _ _ => rfl⟩
  | succ j ih =>
    intro f i T hi hf hT
    obtain ⟨f, rfl⟩ : ∃ g, f = g + 1 := ⟨f - 1, by omega⟩
    rw [f_X10_readFirst_L7, if_neg (show ¬ (6 : Int32) ≤ nI i from nI_ge (b := 6) (by omega) (by decide)), tm_rdN (by omega) (by decide), Option.bind_some, tm_sr_ne _ _ (show (129 : Nat) ≠ 141 by decide), ht i (by omega), tm_wrN (by omega) (by decide), Option.bind_some, tm_st_sr, tm_sr_sr, tm_sr_at, nI_1]
    obtain ⟨T', q1, q2, q3⟩ := ih f (i + 1) (upd T i (mFirsts i)) (by omega) (by omega) (fun k hk => by
      by_cases e : k = i
      · rw [e, pk_us]
      · rw [pk_un e]
        exact hT k (by omega))
    exact ⟨T', q1, q2, fun k hk => by rw [q3 k hk, pk_un (by omega)]⟩
theorem m_rf {N : tm_M} {b e : Int32} (ht : ∀ k, k < 6 → N 129 k = mFirsts k) : f_X10_readFirst (tN N b e) = some (tN (tm_sr (tm_st N 127 18 0) 141 (frT (N 141))) b e) := by
  unfold f_X10_readFirst
  rw [tN_s3 _ _ _ (by decide) (by decide), Option.bind_some]
  have h1 : ∀ k, k < 6 → tN (tm_st N 127 18 0) b e 129 k = mFirsts k := fun k hk => by rw [tN_ne _ _ _ (by decide), tm_stn _ _ _ (by decide)]; exact ht k hk
  obtain ⟨T', q1, q2, q3⟩ := rf_L (k := fun v8 M9 => some M9) h1 6 1000 0 (tN (tm_st N 127 18 0) b e 141) (by omega) (by omega) (fun k hk => absurd hk (Nat.not_lt_zero _))
  rw [tm_sr_self] at q1
  refine Eq.trans q1 ?_
  have eT : T' = frT (N 141) := by
    funext k
    unfold frT
    by_cases h : k < 6
    · rw [if_pos h, q2 k h]
    · rw [if_neg h, q3 k (by omega), tN_ne _ _ _ (by decide), tm_stn _ _ _ (by decide)]
  rw [eT]
  show some (tm_sr (tN (tm_st N 127 18 0) b e) 141 (frT (N 141))) = _
  congr 1
  unfold tN
  funext a
  by_cases e1 : a = 141
  · subst e1
    rw [tm_sr_at, tm_sr_ne _ _ (by decide), tm_sr_at]
  · rw [tm_sr_ne _ _ e1]
    by_cases e2 : a = 127
    · subst e2
      rw [tm_sr_at, tm_sr_at, tm_sr_ne _ _ (by decide)]
    · rw [tm_sr_ne _ _ e2, tm_sr_ne _ _ e2, tm_sr_ne _ _ e1]
theorem cl_n {k : Int32 → Int32 → tm_M → Option (Int32 × tm_M)} {C N : tm_M} {t a cnt i n : Nat} {L : LV} {b1 b2 w1 : Int32} (hC : xC C t L) (hN : xN N t L) (hw : R_tab N) (ha : a ≤ t) (hcnt : cnt ≤ 6) (h18 : N 127 18 = nI cnt) (hi : i < 14) (hfr : ∀ k, k < 6 → N 129 k = mFirsts k) :
    (∃ (b : Nat) (C' N' : tm_M), b ≤ t ∧ f_X7_read_L14 k w1 (n + 1) (nI cnt) (nI i) (tC C b1 (nI a)) = some (nI b, C') ∧ f_X10_readsClause (tN N b2 (nI a)) = some (0, N') ∧ N' 127 16 = nI b ∧ FrC C C' ∧ FrN N N') ∨
    (∃ (b a' cnt' : Nat) (C' N' : tm_M), a' ≤ t ∧ cnt' ≤ 6 ∧ f_X7_read_L14 k w1 (n + 1) (nI cnt) (nI i) (tC C b1 (nI a)) = tT k w1 n (nI cnt') (nI (i + 1)) (tC C' (nI b) (nI a')) ∧ f_X10_readsClause (tN N b2 (nI a)) = some (1, tN N' (nI b) (nI a')) ∧ C' 2 3 = nI (i + 1) ∧ (∀ j, j ≠ i → C' 4 j = C 4 j ∧ C' 5 j = C 5 j ∧ C' 6 j = C 6 j) ∧ okS (cnt, N 140, N 141) (C' 4 i) (C' 5 i) (C' 6 i) ∧ (cnt', N' 140, N' 141) = stS (cnt, N 140, N 141) (C' 4 i) (C' 5 i) (C' 6 i) ∧ N' 127 18 = nI cnt' ∧ N' 127 21 = N 127 21 ∧ FrC C C' ∧ FrN N N') := by
  have ht := hC.1
  obtain ⟨b, e, q1, q2, q3, q4, q5, q6, q7⟩ := tk_n (b1 := b1) (b2 := b2) hC hN ha
  obtain ⟨w, g1, g2, g3⟩ := wd_n hC hN hw.1 q2 q3 q5
  have n14 : ¬ (14 : Int32) ≤ nI i := nI_ge (b := 14) hi (by decide)
  have hstep : f_X7_read_L14 k w1 (n + 1) (nI cnt) (nI i) (tC C b1 (nI a)) = if w = -1 then some (nI b, tC C (nI b) (nI e)) else ((f_X7_isCouple w).bind fun r12 => if r12 = 0 then ((f_X7_readNumbers (tC C (nI b) (nI e)) (nI i) w).bind fun r15 => if r15.1 = 0 then some (r15.2 2 6, r15.2) else (tm_wr r15.2 4 14 (nI i) w).bind fun M18 => if w = 0 then tT k w1 n 0 (nI (i + 1)) (tm_st M18 2 3 (nI (i + 1))) else (f_X7_isCouple w).bind fun r23 => if r23 = 0 then tT k w1 n (nI cnt) (nI (i + 1)) (tm_st M18 2 3 (nI (i + 1))) else tT k w1 n (nI (cnt + 1)) (nI (i + 1)) (tm_st M18 2 3 (nI (i + 1)))) else if nI cnt < 6 then ((f_X7_readNumbers (tC C (nI b) (nI e)) (nI i) w).bind fun r15 => if r15.1 = 0 then some (r15.2 2 6, r15.2) else (tm_wr r15.2 4 14 (nI i) w).bind fun M18 => if w = 0 then tT k w1 n 0 (nI (i + 1)) (tm_st M18 2 3 (nI (i + 1))) else (f_X7_isCouple w).bind fun r23 => if r23 = 0 then tT k w1 n (nI cnt) (nI (i + 1)) (tm_st M18 2 3 (nI (i + 1))) else tT k w1 n (nI (cnt + 1)) (nI (i + 1)) (tm_st M18 2 3 (nI (i + 1)))) else some (nI b, tC C (nI b) (nI e))) := by
    rw [f_X7_read_L14, if_neg n14, q6, Option.bind_some, g1, Option.bind_some, tC_26, nI_1, nI_1]
    rfl
  have mstep : f_X10_readsClause (tN N b2 (nI a)) = if w = -1 then some (0, tN N (nI b) (nI e)) else if w = 0 then ((f_X10_readFirst (tN N (nI b) (nI e))).bind fun M17 => some (1, M17)) else if 5 ≤ w then ((f_X10_readsTerm (tN N (nI b) (nI e)) (w - 5)).bind fun r9 => tm_gd (r9.1 = 0 ∨ r9.1 = 1) <| some (r9.1, r9.2)) else ((f_X10_readsCouple (tN N (nI b) (nI e)) (w - 1)).bind fun r12 => tm_gd (r12.1 = 0 ∨ r12.1 = 1) <| some (r12.1, r12.2)) := by
    unfold f_X10_readsClause
    rw [q7, Option.bind_some, g2, Option.bind_some]
  rw [hstep, mstep]
  rcases g3 with rfl | ⟨j, hj, rfl⟩
  · rw [if_pos rfl, if_pos rfl]
    exact Or.inl ⟨b, _, _, by omega, rfl, rfl, tN_16 _ _ _, FrC.t _ _ _, FrN.t _ _ _⟩
  · have nm : ¬ nI j = -1 := nI_nm1 (by omega)
    have cj : (nI j).toNatClampNeg = j := nI_clamp (by omega)
    rw [if_neg nm, if_neg nm]
    have isC : f_X7_isCouple (nI j) = some (if 1 ≤ j ∧ j < 5 then 1 else 0) := by
      unfold f_X7_isCouple
      by_cases h1 : j < 1
      · rw [if_pos (show nI j < 1 from nI_lt (b := 1) h1 (by decide)), if_neg (by omega)]
      · rw [if_neg (show ¬ nI j < 1 from nI_nlt (b := 1) (by omega) (by omega))]
        by_cases h2 : j < 5
        · rw [if_neg (show ¬ (5 : Int32) ≤ nI j from nI_ge (b := 5) h2 (by decide)), if_pos (by omega)]
        · rw [if_pos (show (5 : Int32) ≤ nI j from nI_le (a := 5) (by omega) (by omega)), if_neg (by omega)]
    rw [isC, Option.bind_some]
    by_cases hj0 : j = 0
    · -- the desk
      subst hj0
      rw [if_pos (show (if 1 ≤ 0 ∧ 0 < 5 then (1 : Int32) else 0) = 0 by decide), show f_X7_readNumbers (tC C (nI b) (nI e)) (nI i) (nI 0) = some (1, tC C (nI b) (nI e)) from by unfold f_X7_readNumbers; rw [if_pos (show nI 0 = 0 from rfl)], Option.bind_some, if_neg (show ¬ (1 : Int32) = 0 by decide), tm_wrN (by omega) (by decide), Option.bind_some, if_pos (show nI 0 = 0 from rfl), if_pos (show nI 0 = 0 from rfl), m_rf hfr, Option.bind_some, tC_st _ _ _ (by decide), tC_s3 _ _ _ (by decide) (by decide)]
      refine Or.inr ⟨b, e, 0, tm_st (tm_st C 4 i (nI 0)) 2 3 (nI (i + 1)), tm_sr (tm_st N 127 18 0) 141 (frT (N 141)), q3, by decide, rfl, rfl, by rw [tm_sta, pk_us], fun j hj => ?_, ?_, ?_, ?_, ?_, (FrC.s _ _ (Or.inl rfl)).tr (FrC.s _ _ (by omega)), ?_⟩
      · rw [tm_stn _ _ _ (show (4 : Nat) ≠ 2 by decide), tm_sta, pk_un hj, tm_stn _ _ _ (show (5 : Nat) ≠ 2 by decide), tm_stn _ _ _ (show (5 : Nat) ≠ 4 by decide), tm_stn _ _ _ (show (6 : Nat) ≠ 2 by decide), tm_stn _ _ _ (show (6 : Nat) ≠ 4 by decide)]
        exact ⟨rfl, rfl, rfl⟩
      · rw [tm_stn _ _ _ (show (4 : Nat) ≠ 2 by decide), tm_sta, pk_us]
        exact ⟨0, by decide, rfl, fun h => by omega, fun h => by omega⟩
      · rw [tm_stn _ _ _ (show (4 : Nat) ≠ 2 by decide), tm_sta, pk_us]
        unfold stS
        rw [cj, if_pos rfl, tm_sr_ne _ _ (by decide), tm_stn _ _ _ (by decide), tm_sr_at]
      · rw [tm_sr_ne _ _ (by decide), tm_sta, pk_us]
        rfl
      · rw [tm_sr_ne _ _ (by decide), tm_sta, pk_un (by decide)]
      · refine FrN.tr (FrN.s N (o := 127) (k := 18) 0 (by omega)) ⟨fun a _ _ h => tm_sr_ne _ _ h, ?_, ?_, ?_, ?_⟩ <;> rw [tm_sr_ne _ _ (by decide)]
    · have n0 : ¬ nI j = 0 := nI_ne0 (by omega) (by omega)
      by_cases hj5 : j < 5
      · -- a couple
        have hc1 : ¬ (if 1 ≤ j ∧ j < 5 then (1 : Int32) else 0) = 0 := by rw [if_pos (by omega)]; decide
        rw [if_neg hc1, if_neg n0, if_neg (show ¬ (5 : Int32) ≤ nI j from nI_ge (b := 5) hj5 (by decide))]
        by_cases h6 : cnt = 6
        · subst h6
          rw [if_neg (by decide)]
          refine Or.inl ⟨b, tC C (nI b) (nI e), tN N (nI b) (nI e), by omega, rfl, ?_, tN_16 _ _ _, FrC.t _ _ _, FrN.t _ _ _⟩
          unfold f_X10_readsCouple
          rw [tN_k _ _ _ (by decide) (by decide), h18, if_pos (show nI 6 = 6 from rfl), Option.bind_some, tm_gd_t (Or.inl rfl)]
        · have h6' : ¬ nI cnt = 6 := fun z => h6 ((nI_eq (b := 6) (by omega) (by decide)).mp z)
          rw [if_pos (show nI cnt < 6 from nI_lt (b := 6) (by omega) (by decide))]
          obtain ⟨v, bb, ee, p1, p2, p3, p4, p5⟩ := nm_n (b1 := nI b) (b2 := nI b) (A := 1) (B := 9) (l := 1) (m := 9) hC hN q3 rfl rfl (by decide) (by decide)
          rcases p5 with rfl | ⟨x, x1, x2, rfl⟩
          · refine Or.inl ⟨bb, tC (tm_st C 5 i (-1)) (nI bb) (nI ee), tN N (nI bb) (nI ee), by omega, ?_, ?_, tN_16 _ _ _, (FrC.s _ _ (by omega)).tr (FrC.t _ _ _), FrN.t _ _ _⟩
            · unfold f_X7_readNumbers
              rw [if_neg n0, isC, Option.bind_some, if_neg hc1, p3, Option.bind_some, tm_wrN (by omega) (by decide), Option.bind_some, tm_rdN (by omega) (by decide), Option.bind_some, tm_sta, pk_us, if_pos rfl, Option.bind_some, if_pos rfl, tC_st _ _ _ (by decide)]
              dsimp only
              rw [tC_26]
            · unfold f_X10_readsCouple
              rw [tN_k _ _ _ (by decide) (by decide), h18, if_neg h6', p4, Option.bind_some, Option.bind_some, if_pos rfl, Option.bind_some, tm_gd_t (Or.inl rfl)]
          · have nx : ¬ nI x = -1 := nI_nm1 (by omega)
            have hC5 : xC (tm_st C 5 i (nI x)) t L := xC_f (FrC.s _ _ (by omega)) hC
            obtain ⟨v2, b3, e3, r1, r2, r3, r4, r5⟩ := nm_n (b1 := nI bb) (b2 := nI bb) (A := 0) (B := 99) (l := 0) (m := 99) hC5 hN p2 rfl rfl (by decide) (by decide)
            have crn : f_X7_readNumbers (tC C (nI b) (nI e)) (nI i) (nI j) = if v2 = -1 then some (0, tC (tm_st (tm_st C 5 i (nI x)) 6 i v2) (nI b3) (nI e3)) else some (1, tC (tm_st (tm_st C 5 i (nI x)) 6 i v2) (nI b3) (nI e3)) := by
              unfold f_X7_readNumbers
              rw [if_neg n0, isC, Option.bind_some, if_neg hc1, p3, Option.bind_some, tm_wrN (by omega) (by decide), Option.bind_some, tm_rdN (by omega) (by decide), Option.bind_some, tm_sta, pk_us, if_neg nx, tC_st _ _ _ (by decide), r3, Option.bind_some, tm_wrN (by omega) (by decide), Option.bind_some, tm_rdN (by omega) (by decide), Option.bind_some, tm_sta, pk_us, tC_st _ _ _ (by decide)]
            have ewm : nI j - 1 = nI (j - 1) := pk_sub (b := 1) (by omega)
            rw [crn]
            rcases r5 with rfl | ⟨y, y1, y2, rfl⟩
            · rw [if_pos rfl, Option.bind_some, if_pos rfl]
              refine Or.inl ⟨b3, tC (tm_st (tm_st C 5 i (nI x)) 6 i (-1)) (nI b3) (nI e3), tN N (nI b3) (nI e3), by omega, by dsimp only; rw [tC_26], ?_, tN_16 _ _ _, ((FrC.s _ _ (by omega)).tr (FrC.s _ _ (by omega))).tr (FrC.t _ _ _), FrN.t _ _ _⟩
              unfold f_X10_readsCouple
              rw [tN_k _ _ _ (by decide) (by decide), h18, if_neg h6', p4, Option.bind_some, Option.bind_some, if_neg nx, r4, Option.bind_some, Option.bind_some, if_pos rfl, Option.bind_some, tm_gd_t (Or.inl rfl)]
            · have ny : ¬ nI y = -1 := nI_nm1 (by omega)
              have e3c : (3 : Int32) * nI cnt = nI (3 * cnt) := pk_mul 3 cnt
              rw [if_neg ny, Option.bind_some, if_neg (show ¬ (1 : Int32) = 0 by decide), tm_wrN (by omega) (by decide), Option.bind_some, if_neg n0, Option.bind_some, if_neg hc1]
              dsimp only
              rw [tC_st _ _ _ (by decide), tC_s3 _ _ _ (by decide) (by decide)]
              refine Or.inr ⟨b3, e3, cnt + 1, tm_st (tm_st (tm_st (tm_st C 5 i (nI x)) 6 i (nI y)) 4 i (nI j)) 2 3 (nI (i + 1)), tm_st (tm_st (tm_st (tm_st N 140 (3 * cnt) (nI (j - 1))) 140 (3 * cnt + 1) (nI x)) 140 (3 * cnt + 2) (nI y)) 127 18 (nI (cnt + 1)), r2, by omega, rfl, ?_, by rw [tm_sta, pk_us], fun j2 hj2 => ?_, ?_, ?_, ?_, ?_, (((FrC.s _ _ (by omega)).tr (FrC.s _ _ (by omega))).tr (FrC.s _ _ (by omega))).tr (FrC.s _ _ (by omega)), (((FrN.s _ _ (by omega)).tr (FrN.s _ _ (by omega))).tr (FrN.s _ _ (by omega))).tr (FrN.s _ _ (by omega))⟩
              · unfold f_X10_readsCouple
                rw [tN_k _ _ _ (by decide) (by decide), h18, if_neg h6', p4, Option.bind_some, Option.bind_some, if_neg nx, r4, Option.bind_some, Option.bind_some, if_neg ny]
                dsimp only
                rw [tN_k _ _ _ (by decide) (by decide), h18, e3c, ewm, tm_wrN (by omega) (by decide), Option.bind_some, tN_st _ _ _ (by decide), tN_k _ _ _ (by decide) (by decide), tm_stn _ _ _ (show (127 : Nat) ≠ 140 by decide), h18, e3c, nI_1, tm_wrN (by omega) (by decide), Option.bind_some, tN_st _ _ _ (by decide), tN_k _ _ _ (by decide) (by decide), tm_stn _ _ _ (show (127 : Nat) ≠ 140 by decide), tm_stn _ _ _ (show (127 : Nat) ≠ 140 by decide), h18, e3c, show nI (3 * cnt) + 2 = nI (3 * cnt + 2) from nI_add _ 2, tm_wrN (by omega) (by decide), Option.bind_some, tN_st _ _ _ (by decide), tN_k _ _ _ (by decide) (by decide), tm_stn _ _ _ (show (127 : Nat) ≠ 140 by decide), tm_stn _ _ _ (show (127 : Nat) ≠ 140 by decide), tm_stn _ _ _ (show (127 : Nat) ≠ 140 by decide), h18, nI_1, Option.bind_some, tN_s3 _ _ _ (by decide) (by decide), Option.bind_some, tm_gd_t (Or.inr rfl)]
              · rw [tm_stn _ _ _ (show (4 : Nat) ≠ 2 by decide), tm_sta, pk_un hj2, tm_stn _ _ _ (show (4 : Nat) ≠ 6 by decide), tm_stn _ _ _ (show (4 : Nat) ≠ 5 by decide), tm_stn _ _ _ (show (5 : Nat) ≠ 2 by decide), tm_stn _ _ _ (show (5 : Nat) ≠ 4 by decide), tm_stn _ _ _ (show (5 : Nat) ≠ 6 by decide), tm_sta, pk_un hj2, tm_stn _ _ _ (show (6 : Nat) ≠ 2 by decide), tm_stn _ _ _ (show (6 : Nat) ≠ 4 by decide), tm_sta, pk_un hj2, tm_stn _ _ _ (show (6 : Nat) ≠ 5 by decide)]
                exact ⟨rfl, rfl, rfl⟩
              · rw [tm_stn _ _ _ (show (4 : Nat) ≠ 2 by decide), tm_sta, pk_us, tm_stn _ _ _ (show (5 : Nat) ≠ 2 by decide), tm_stn _ _ _ (show (5 : Nat) ≠ 4 by decide), tm_stn _ _ _ (show (5 : Nat) ≠ 6 by decide), tm_sta, pk_us, tm_stn _ _ _ (show (6 : Nat) ≠ 2 by decide), tm_stn _ _ _ (show (6 : Nat) ≠ 4 by decide), tm_sta, pk_us]
                exact ⟨j, hj, rfl, fun _ _ => ⟨by show cnt < 6; omega, ⟨x, x2, rfl⟩, ⟨y, y2, rfl⟩⟩, fun h => by omega⟩
              · rw [tm_stn _ _ _ (show (4 : Nat) ≠ 2 by decide), tm_sta, pk_us, tm_stn _ _ _ (show (5 : Nat) ≠ 2 by decide), tm_stn _ _ _ (show (5 : Nat) ≠ 4 by decide), tm_stn _ _ _ (show (5 : Nat) ≠ 6 by decide), tm_sta, pk_us, tm_stn _ _ _ (show (6 : Nat) ≠ 2 by decide), tm_stn _ _ _ (show (6 : Nat) ≠ 4 by decide), tm_sta, pk_us]
                unfold stS
                rw [cj, if_neg hj0, if_pos hj5, tm_stn _ _ _ (show (140 : Nat) ≠ 127 by decide), tm_sta, tm_sta, tm_sta, tm_stn _ _ _ (show (141 : Nat) ≠ 127 by decide), tm_stn _ _ _ (show (141 : Nat) ≠ 140 by decide), tm_stn _ _ _ (show (141 : Nat) ≠ 140 by decide), tm_stn _ _ _ (show (141 : Nat) ≠ 140 by decide)]
              · rw [tm_sta, pk_us]
              · rw [tm_sta, pk_un (by decide), tm_stn _ _ _ (show (127 : Nat) ≠ 140 by decide), tm_stn _ _ _ (show (127 : Nat) ≠ 140 by decide), tm_stn _ _ _ (show (127 : Nat) ≠ 140 by decide)]
      · -- a term
        have hc0 : (if 1 ≤ j ∧ j < 5 then (1 : Int32) else 0) = 0 := by rw [if_neg (by omega)]
        obtain ⟨lo, hi2, l1, l2, l3, l4, -⟩ := lm_b (k := j - 5) (by omega)
        have ew : nI j - 5 = nI (j - 5) := pk_sub (b := 5) (by omega)
        obtain ⟨v, bb, ee, p1, p2, p3, p4, p5⟩ := nm_n (b1 := nI b) (b2 := nI b) (A := tm_least (j - 5)) (B := tm_most (j - 5)) (l := lo) (m := hi2) hC hN q3 l1 l2 l3 (by omega)
        obtain ⟨-, t2, t3⟩ := hw.2 (j - 5) (by omega)
        have crn : f_X7_readNumbers (tC C (nI b) (nI e)) (nI i) (nI j) = if v = -1 then some (0, tC (tm_st C 5 i v) (nI bb) (nI ee)) else some (1, tC (tm_st C 5 i v) (nI bb) (nI ee)) := by
          unfold f_X7_readNumbers
          rw [if_neg n0, isC, Option.bind_some, if_pos hc0, ew, Option.bind_some, if_neg (nI_pos (by omega)), if_pos (show nI (j - 5) < 6 from nI_lt (b := 6) (by omega) (by decide)), tm_rdsN (by omega) (by decide), Option.bind_some, tm_rdsN (by omega) (by decide), Option.bind_some, p3, Option.bind_some, tm_wrN (by omega) (by decide), Option.bind_some, tm_rdN (by omega) (by decide), Option.bind_some, tm_sta, pk_us, tC_st _ _ _ (by decide)]
        have mrn : f_X10_readsTerm (tN N (nI b) (nI e)) (nI j - 5) = if v = -1 then some (0, tN (tm_st N 141 (j - 5) v) (nI bb) (nI ee)) else some (1, tN (tm_st N 141 (j - 5) v) (nI bb) (nI ee)) := by
          unfold f_X10_readsTerm
          rw [ew, tm_rdN (by omega) (by decide), Option.bind_some, tm_rdN (by omega) (by decide), Option.bind_some, tN_ne _ _ _ (by decide), tN_ne _ _ _ (by decide), t2, t3, p4, Option.bind_some, Option.bind_some, tm_wrN (by omega) (by decide), Option.bind_some, tN_st _ _ _ (by decide)]
        rw [if_pos hc0, if_neg n0, if_pos (show (5 : Int32) ≤ nI j from nI_le (a := 5) (by omega) (by omega)), crn, mrn]
        rcases p5 with rfl | ⟨x, x1, x2, rfl⟩
        · rw [if_pos rfl, if_pos rfl, Option.bind_some, if_pos rfl, Option.bind_some, tm_gd_t (Or.inl rfl)]
          exact Or.inl ⟨bb, tC (tm_st C 5 i (-1)) (nI bb) (nI ee), tN (tm_st N 141 (j - 5) (-1)) (nI bb) (nI ee), by omega, by dsimp only; rw [tC_26], rfl, tN_16 _ _ _, (FrC.s _ _ (by omega)).tr (FrC.t _ _ _), (FrN.s _ _ (by omega)).tr (FrN.t _ _ _)⟩
        · have nx : ¬ nI x = -1 := nI_nm1 (by omega)
          rw [if_neg nx, if_neg nx, Option.bind_some, if_neg (show ¬ (1 : Int32) = 0 by decide), Option.bind_some, tm_gd_t (Or.inr rfl), tm_wrN (by omega) (by decide), Option.bind_some, if_neg n0, Option.bind_some, if_pos hc0]
          dsimp only
          rw [tC_st _ _ _ (by decide), tC_s3 _ _ _ (by decide) (by decide)]
          refine Or.inr ⟨bb, ee, cnt, tm_st (tm_st (tm_st C 5 i (nI x)) 4 i (nI j)) 2 3 (nI (i + 1)), tm_st N 141 (j - 5) (nI x), p2, hcnt, rfl, rfl, by rw [tm_sta, pk_us], fun j2 hj2 => ?_, ?_, ?_, ?_, ?_, ((FrC.s _ _ (by omega)).tr (FrC.s _ _ (by omega))).tr (FrC.s _ _ (by omega)), FrN.s _ _ (by omega)⟩
          · rw [tm_stn _ _ _ (show (4 : Nat) ≠ 2 by decide), tm_sta, pk_un hj2, tm_stn _ _ _ (show (4 : Nat) ≠ 5 by decide), tm_stn _ _ _ (show (5 : Nat) ≠ 2 by decide), tm_stn _ _ _ (show (5 : Nat) ≠ 4 by decide), tm_sta, pk_un hj2, tm_stn _ _ _ (show (6 : Nat) ≠ 2 by decide), tm_stn _ _ _ (show (6 : Nat) ≠ 4 by decide), tm_stn _ _ _ (show (6 : Nat) ≠ 5 by decide)]
            exact ⟨rfl, rfl, rfl⟩
          · rw [tm_stn _ _ _ (show (4 : Nat) ≠ 2 by decide), tm_sta, pk_us, tm_stn _ _ _ (show (5 : Nat) ≠ 2 by decide), tm_stn _ _ _ (show (5 : Nat) ≠ 4 by decide), tm_sta, pk_us]
            exact ⟨j, hj, rfl, fun _ h => by omega, fun _ => ⟨lo, hi2, x, l1, l2, x1, x2, l4, rfl⟩⟩
          · have e4 : tm_st (tm_st (tm_st C 5 i (nI x)) 4 i (nI j)) 2 3 (nI (i + 1)) 4 i = nI j := by rw [tm_stn _ _ _ (show (4 : Nat) ≠ 2 by decide), tm_sta, pk_us]
            have e5 : tm_st (tm_st (tm_st C 5 i (nI x)) 4 i (nI j)) 2 3 (nI (i + 1)) 5 i = nI x := by rw [tm_stn _ _ _ (show (5 : Nat) ≠ 2 by decide), tm_stn _ _ _ (show (5 : Nat) ≠ 4 by decide), tm_sta, pk_us]
            rw [e4, e5]
            unfold stS
            rw [cj, if_neg hj0, if_neg hj5, tm_stn _ _ _ (show (140 : Nat) ≠ 141 by decide), tm_sta]
          · rw [tm_stn _ _ _ (by decide)]; exact h18
          · rw [tm_stn _ _ _ (by decide)]
