/-! DESK: the reference lays it; both alike -/
theorem lay_1 {N : tm_M} {k : Int32 → tm_M → Option tm_M} : ∀ (j f i : Nat) (r : LV), i + j = 56 → j < f → (∀ p, p < i → r p = if p < 44 then 0 else -1) → ∃ r' : LV, f_X10_layDesk_L2 k f (nI i) (tm_sr N 132 r) = k (nI 56) (tm_sr N 132 r') ∧ (∀ p, p < 56 → r' p = if p < 44 then 0 else -1) ∧ ∀ p, 56 ≤ p → r' p = r p := by
  intro j
  induction j with
  | zero =>
    intro f i r hi hf hr
    obtain ⟨f, rfl⟩ : ∃ g, f = g + 1 := ⟨f - 1, by omega⟩
    have : i = 56 := by omega
    subst this
    exact ⟨r, by rw [f_X10_layDesk_L2, if_pos (by decide)], hr, fun _ _ => rfl⟩
  | succ j ih =>
    intro f i r hi hf hr
    obtain ⟨f, rfl⟩ : ∃ g, f = g + 1 := ⟨f - 1, by omega⟩
    obtain ⟨r', q1, q2, q3⟩ := ih f (i + 1) (upd r i (if i < 44 then 0 else -1)) (by omega) (by omega) (fun p hp => by
      by_cases e : p = i
      · rw [e, pk_us]
      · rw [pk_un e]
        exact hr p (by omega))
    refine ⟨r', ?_, q2, fun p hp => by rw [q3 p hp, pk_un (by omega)]⟩
    rw [f_X10_layDesk_L2, if_neg (show ¬ (56 : Int32) ≤ nI i from nI_ge (b := 56) (by omega) (by decide)), tm_wrN (by omega) (by decide), tm_wrN (by omega) (by decide), Option.bind_some, Option.bind_some, tm_st_sr, tm_st_sr, tm_sr_sr, tm_sr_sr, tm_sr_at, nI_1]
    by_cases z : i < 44
    · rw [if_pos z] at q1
      rw [if_neg (show ¬ (44 : Int32) ≤ nI i from nI_ge (b := 44) z (by decide))]
      exact q1
    · rw [if_neg z] at q1
      rw [if_pos (show (44 : Int32) ≤ nI i from nI_le (a := 44) (by omega) (by omega))]
      exact q1
theorem lay_2 {N : tm_M} {cnt : Nat} {k : Int32 → tm_M → Option tm_M} (hcnt : cnt ≤ 6) (h7 : N 127 7 = nI cnt) : ∀ (j f i : Nat) (r : LV), i + j = 6 → j < f → (∀ c, c < i → r (1 + c) = N 137 c ∧ r (7 + c) = if c < cnt then N 136 c else 0) → ∃ r' : LV, f_X10_layDesk_L33 k f (nI i) (tm_sr N 132 r) = k (nI 6) (tm_sr N 132 r') ∧ (∀ c, c < 6 → r' (1 + c) = N 137 c ∧ r' (7 + c) = if c < cnt then N 136 c else 0) ∧ ∀ p, p = 0 ∨ 13 ≤ p → r' p = r p := by
  intro j
  induction j with
  | zero =>
    intro f i r hi hf hr
    obtain ⟨f, rfl⟩ : ∃ g, f = g + 1 := ⟨f - 1, by omega⟩
    have : i = 6 := by omega
    subst this
    exact ⟨r, by rw [f_X10_layDesk_L33, if_pos (by decide)], hr, fun _ _ => rfl⟩
  | succ j ih =>
    intro f i r hi hf hr
    obtain ⟨f, rfl⟩ : ∃ g, f = g + 1 := ⟨f - 1, by omega⟩
    obtain ⟨r', q1, q2, q3⟩ := ih f (i + 1) (upd (upd r (1 + i) (N 137 i)) (7 + i) (if i < cnt then N 136 i else 0)) (by omega) (by omega) (fun c hc => by
      by_cases e : c = i
      · subst e
        rw [pk_un (by omega), pk_us, pk_us]
        exact ⟨rfl, rfl⟩
      · rw [pk_un (by omega), pk_un (by omega), pk_un (by omega), pk_un (by omega)]
        exact hr c (by omega))
    refine ⟨r', ?_, q2, fun p hp => by rw [q3 p hp, pk_un (by omega), pk_un (by omega)]⟩
    rw [f_X10_layDesk_L33, if_neg (show ¬ (6 : Int32) ≤ nI i from nI_ge (b := 6) (by omega) (by decide)), tm_rdN (by omega) (by decide), Option.bind_some, tm_sr_ne _ _ (show (137 : Nat) ≠ 132 by decide), show (1 : Int32) + nI i = nI (1 + i) from nI_add 1 i, tm_wrN (by omega) (by decide), Option.bind_some, tm_st_sr, tm_sr_sr, tm_sr_at, tm_sr_ne _ _ (show (127 : Nat) ≠ 132 by decide), h7, show (7 : Int32) + nI i = nI (7 + i) from nI_add 7 i, nI_1]
    by_cases z : i < cnt
    · rw [if_pos z] at q1
      rw [if_neg (nI_ge z (by omega)), tm_rdN (by omega) (by decide), Option.bind_some, tm_sr_ne _ _ (show (136 : Nat) ≠ 132 by decide), tm_wrN (by omega) (by decide), Option.bind_some, tm_st_sr, tm_sr_sr, tm_sr_at]
      exact q1
    · rw [if_neg z] at q1
      rw [if_pos (nI_le (by omega) (by omega)), tm_wrN (by omega) (by decide), Option.bind_some, tm_st_sr, tm_sr_sr, tm_sr_at]
      exact q1
theorem m_layD {N : tm_M} {cnt : Nat} (hcnt : cnt ≤ 6) (h7 : N 127 7 = nI cnt) : ∃ N' : tm_M, f_X10_layDesk N = some N' ∧ (∀ a, a ≠ 127 → a ≠ 132 → a ≠ 133 → N' a = N a) ∧ (∀ k, k ≠ 5 → k ≠ 15 → N' 127 k = N 127 k) ∧ N' 127 5 = 0 ∧ N' 127 15 = 0 ∧ N' 133 0 = 0 ∧ N' 133 1 = 0 ∧ N' 132 0 = 0 ∧ (∀ c, c < 6 → N' 132 (1 + c) = N 137 c ∧ N' 132 (7 + c) = if c < cnt then N 136 c else 0) ∧ (∀ p, 13 ≤ p → p < 44 → N' 132 p = 0) ∧ ∀ p, 44 ≤ p → p < 56 → N' 132 p = -1 := by
  obtain ⟨r1, a1, a2, a3⟩ := lay_1 (N := N) (k := fun v7 M8 => f_X10_layDesk_L33 (fun v21 M22 => (some (tm_st M22 127 5 0)).bind fun M23 => (some (tm_st M23 127 15 0)).bind fun M25 => (tm_wr M25 133 2 0 0).bind fun M27 => (tm_wr M27 133 2 1 0).bind fun M29 => some M29) 1000 0 M8) 56 1000 0 (N 132) (by omega) (by omega) (fun p hp => absurd hp (Nat.not_lt_zero _))
  rw [tm_sr_self] at a1
  obtain ⟨r, b1, b2, b3⟩ := lay_2 (N := N) (k := fun v21 M22 => (some (tm_st M22 127 5 0)).bind fun M23 => (some (tm_st M23 127 15 0)).bind fun M25 => (tm_wr M25 133 2 0 0).bind fun M27 => (tm_wr M27 133 2 1 0).bind fun M29 => some M29) hcnt h7 6 1000 0 r1 (by omega) (by omega) (fun p hp => absurd hp (Nat.not_lt_zero _))
  have e132 : tm_st (tm_st (tm_st (tm_st (tm_sr N 132 r) 127 5 0) 127 15 0) 133 0 0) 133 1 0 132 = r := by
    rw [tm_stn _ _ _ (by decide), tm_stn _ _ _ (by decide), tm_stn _ _ _ (by decide), tm_stn _ _ _ (by decide), tm_sr_at]
  refine ⟨tm_st (tm_st (tm_st (tm_st (tm_sr N 132 r) 127 5 0) 127 15 0) 133 0 0) 133 1 0, ?_, fun a h1 h2 h3 => ?_, fun k h1 h2 => ?_, ?_, ?_, ?_, ?_, ?_, fun c hc => ?_, fun p h1 h2 => ?_, fun p h1 h2 => ?_⟩
  · unfold f_X10_layDesk
    refine Eq.trans a1 ?_
    refine Eq.trans b1 ?_
    rw [Option.bind_some, Option.bind_some, show ∀ M : tm_M, tm_wr M 133 2 0 0 = some (tm_st M 133 0 0) from fun M => tm_wrN (k := 0) (by decide) (by decide), Option.bind_some, show ∀ M : tm_M, tm_wr M 133 2 1 0 = some (tm_st M 133 1 0) from fun M => tm_wrN (k := 1) (by decide) (by decide), Option.bind_some]
  · rw [tm_stn _ _ _ h3, tm_stn _ _ _ h3, tm_stn _ _ _ h1, tm_stn _ _ _ h1, tm_sr_ne _ _ h2]
  · rw [tm_stn _ _ _ (by decide), tm_stn _ _ _ (by decide), tm_sta, pk_un h2, tm_sta, pk_un h1, tm_sr_ne _ _ (by decide)]
  · rw [tm_stn _ _ _ (by decide), tm_stn _ _ _ (by decide), tm_sta, pk_un (by decide), tm_sta, pk_us]
  · rw [tm_stn _ _ _ (by decide), tm_stn _ _ _ (by decide), tm_sta, pk_us]
  · rw [tm_sta, pk_un (by decide), tm_sta, pk_us]
  · rw [tm_sta, pk_us]
  · rw [e132, b3 0 (Or.inl rfl), a2 0 (by decide)]; rfl
  · rw [e132]; exact b2 c hc
  · rw [e132, b3 p (Or.inr h1), a2 p (by omega), if_pos h2]
  · rw [e132, b3 p (Or.inr (by omega)), a2 p h2, if_neg (by omega)]
theorem dk_1 {N : tm_M} {cnt : Nat} {k : Int32 → tm_M → Option (Int32 × tm_M)} (hcnt : cnt ≤ 6) (h7 : N 127 7 = nI cnt) : ∀ (j f i : Nat) (N1 : tm_M), i + j = cnt → j < f → (∀ a, a ≠ 134 → a ≠ 135 → a ≠ 136 → N1 a = N a) → (∀ c, c < i → N1 134 c = N 140 (3 * c) ∧ N1 135 c = N 140 (3 * c + 1) ∧ N1 136 c = N 140 (3 * c + 2)) → ∃ N2 : tm_M, f_X10_desk_L25 k f (nI i) N1 = k (nI cnt) N2 ∧ (∀ a, a ≠ 134 → a ≠ 135 → a ≠ 136 → N2 a = N a) ∧ ∀ c, c < cnt → N2 134 c = N 140 (3 * c) ∧ N2 135 c = N 140 (3 * c + 1) ∧ N2 136 c = N 140 (3 * c + 2) := by
  intro j
  induction j with
  | zero =>
    intro f i N1 hi hf h1 h2
    obtain ⟨f, rfl⟩ : ∃ g, f = g + 1 := ⟨f - 1, by omega⟩
    have : i = cnt := by omega
    subst this
    exact ⟨N1, by rw [f_X10_desk_L25, h1 127 (by decide) (by decide) (by decide), h7, if_pos (nI_le (Nat.le_refl _) (by omega))], h1, h2⟩
  | succ j ih =>
    intro f i N1 hi hf h1 h2
    obtain ⟨f, rfl⟩ : ∃ g, f = g + 1 := ⟨f - 1, by omega⟩
    have e3 : (3 : Int32) * nI i = nI (3 * i) := pk_mul 3 i
    have e140 := h1 140 (by decide) (by decide) (by decide)
    obtain ⟨N2, q1, q2, q3⟩ := ih f (i + 1) (tm_st (tm_st (tm_st N1 134 i (N 140 (3 * i))) 135 i (N 140 (3 * i + 1))) 136 i (N 140 (3 * i + 2))) (by omega) (by omega) (fun a g1 g2 g3 => by rw [tm_stn _ _ _ g3, tm_stn _ _ _ g2, tm_stn _ _ _ g1]; exact h1 a g1 g2 g3) (fun c hc => by
      rw [tm_stn _ _ _ (show (134 : Nat) ≠ 136 by decide), tm_stn _ _ _ (show (134 : Nat) ≠ 135 by decide), tm_sta, tm_stn _ _ _ (show (135 : Nat) ≠ 136 by decide), tm_sta, tm_stn _ _ _ (show (135 : Nat) ≠ 134 by decide), tm_sta, tm_stn _ _ _ (show (136 : Nat) ≠ 135 by decide), tm_stn _ _ _ (show (136 : Nat) ≠ 134 by decide)]
      by_cases e : c = i
      · subst e
        rw [pk_us, pk_us, pk_us]
        exact ⟨rfl, rfl, rfl⟩
      · rw [pk_un e, pk_un e, pk_un e]
        exact h2 c (by omega))
    refine ⟨N2, ?_, q2, q3⟩
    rw [f_X10_desk_L25, h1 127 (by decide) (by decide) (by decide), h7, if_neg (nI_ge (by omega) (by omega)), e3, tm_rdN (by omega) (by decide), Option.bind_some, e140, tm_wrN (by omega) (by decide), Option.bind_some, nI_1, tm_rdN (by omega) (by decide), Option.bind_some, tm_stn _ _ _ (show (140 : Nat) ≠ 134 by decide), e140, tm_wrN (by omega) (by decide), Option.bind_some, show nI (3 * i) + 2 = nI (3 * i + 2) from nI_add _ 2, tm_rdN (by omega) (by decide), Option.bind_some, tm_stn _ _ _ (show (140 : Nat) ≠ 135 by decide), tm_stn _ _ _ (show (140 : Nat) ≠ 134 by decide), e140, tm_wrN (by omega) (by decide), Option.bind_some, nI_1]
    exact q1
theorem dk_2 {N : tm_M} {k : Int32 → tm_M → Option (Int32 × tm_M)} : ∀ (j f i : Nat) (P : LV), i + j = 6 → j < f → (∀ c, c < i → P c = N 141 c) → ∃ P' : LV, f_X10_desk_L87 k f (nI i) (tm_sr N 137 P) = k (nI 6) (tm_sr N 137 P') ∧ ∀ c, c < 6 → P' c = N 141 c := by
  intro j
  induction j with
  | zero =>
    intro f i P hi hf hP
    obtain ⟨f, rfl⟩ : ∃ g, f = g + 1 := ⟨f - 1, by omega⟩
    have : i = 6 := by omega
    subst this
    exact ⟨P, by rw [f_X10_desk_L87, if_pos (by decide)], hP⟩
  | succ j ih =>
    intro f i P hi hf hP
    obtain ⟨f, rfl⟩ : ∃ g, f = g + 1 := ⟨f - 1, by omega⟩
    rw [f_X10_desk_L87, if_neg (show ¬ (6 : Int32) ≤ nI i from nI_ge (b := 6) (by omega) (by decide)), tm_rdN (by omega) (by decide), Option.bind_some, tm_sr_ne _ _ (show (141 : Nat) ≠ 137 by decide), tm_wrN (by omega) (by decide), Option.bind_some, tm_st_sr, tm_sr_sr, tm_sr_at, nI_1]
    refine ih f (i + 1) _ (by omega) (by omega) (fun c hc => ?_)
    by_cases e : c = i
    · subst e
      rw [pk_us]
    · rw [pk_un e]
      exact hP c (by omega)
/-- a desk as it is told, of both: the relation holds -/
theorem Rel_new {C N : tm_M} {n : Nat} (hn : n ≤ 6) (h7 : N 127 7 = nI n) (hto : R_told C N n) (hv : ∀ i, i < n → lEq (C (23 + i)) (C (14 + i))) (hT : ∀ k, k < 6 → C 21 k = C 12 k) (c2 : C 20 2 = nI n) (c3 : C 20 3 = 0) (c480 : C 48 0 = 0) (c481 : C 48 1 = 0) (c8 : C 0 8 = 0) (c12 : C 0 12 = 0) (c7 : ∃ q, q < 8 ∧ C 0 7 = nI q) (n5 : N 127 5 = 0) (n15 : N 127 15 = 0) (n133 : N 133 0 = 0) (n133' : N 133 1 = 0) (r0 : N 132 0 = 0) (r1 : ∀ c, c < 6 → N 132 (1 + c) = N 137 c ∧ N 132 (7 + c) = if c < n then N 136 c else 0) (r13 : ∀ p, 13 ≤ p → p < 44 → N 132 p = 0) (r44 : ∀ p, 44 ≤ p → p < 56 → N 132 p = -1) (ht : R_text C N) (hw : R_tab N) : Rel C N n := by
  obtain ⟨q, hq, c7⟩ := c7
  obtain ⟨t1, t2, t3, t4, t5⟩ := hto
  refine ⟨hn, h7, ⟨t1, t2, t3, t4, t5⟩, ⟨0, by decide, c2, c3, tOK_c (fun k hk => hT k hk) t4, r0, fun k hk => ?_, ⟨0, Nat.pow_pos (by decide), r13 19 (by decide) (by decide)⟩, fun c hc => ?_⟩, ⟨0, q, by decide, hq, n5, c8, c7, fun i hi => absurd hi (Nat.not_lt_zero _)⟩, fun k hk => ?_, ⟨0, by decide, c12, n15, fun i hi => absurd hi (Nat.not_lt_zero _)⟩, ht, hw⟩
  · show _ = C 21 k
    rw [hT k hk, Nat.zero_add, (r1 k hk).1]
    exact (t3 k hk).symm
  · show vR N (N 132) 0 c _ (C (23 + c)) ∧ vOK 0 (C (23 + c)) ∧ _
    obtain ⟨k0, k1, k2, ⟨t, ht, kt⟩, ⟨s, hs, ks⟩, k3, k4, k5, k6, k8, k9, k10, k11⟩ := t5 c hc
    have e := hv c hc
    have c6 : c < 6 := by omega
    refine ⟨vR_c (w := C (23 + c)) (v := C (14 + c)) (M := N) (r := N 132) (b := 0) rfl rfl (fun _ _ => rfl) c6 e ⟨k0, k1, ?_, ?_, ?_, ?_, ?_, ?_, ?_, ?_, ?_⟩, vOK_c e.sy ⟨?_, Or.inl k4, Or.inl k11, ⟨0, Nat.le_refl _, k3.trans rfl, fun z => absurd z (by decide)⟩, ⟨t, ht, kt⟩, ⟨s, hs, ks⟩, ⟨0, by decide, k8.trans rfl⟩, ⟨0, by decide, k9.trans rfl⟩⟩, Or.inl (r44 _ (by omega) (by omega))⟩
    · rw [show 0 + 7 + c = 7 + c by omega, (r1 c c6).2, if_pos hc]
      exact k2
    · rw [r13 _ (by omega) (by omega), k3]
    · rw [r13 _ (by omega) (by omega), k4]
      have := bit_at 0 (by decide) c c6
      rw [Nat.zero_testBit] at this
      exact this
    · rw [r13 _ (by omega) (by omega), k5]
    · rw [r13 _ (by omega) (by omega), k6]
    · rw [r13 _ (by omega) (by omega), k8]
    · rw [r13 _ (by omega) (by omega), k9]
    · rw [r44 _ (by omega) (by omega), k10]
    · rw [r44 _ (by omega) (by omega), k11]
      rfl
    · rcases k0 with ⟨-, z⟩ | ⟨-, z⟩ | ⟨-, z⟩ | ⟨-, z⟩
      · exact Or.inl z
      · exact Or.inr (Or.inl z)
      · exact Or.inr (Or.inr (Or.inl z))
      · exact Or.inr (Or.inr (Or.inr z))
  · rcases (show k = 0 ∨ k = 1 by omega) with rfl | rfl
    · exact ⟨Or.inl c480, n133.trans c480.symm, fun z => absurd (c480.symm.trans z) (by decide)⟩
    · exact ⟨Or.inl c481, n133'.trans c481.symm, fun z => absurd (c481.symm.trans z) (by decide)⟩
theorem o_desk : oOK (fun C => f_X9_desk C) (fun N => f_X10_desk N) := by
  intro C N n hR
  have hR0 := hR
  obtain ⟨r, C1, N1, cp, tm, q1, q2, q3, q4, q5, q6⟩ := rd_both hR
  have hcF : cF C C1 := fun a ha => q2.1 a (by omega) (by omega) (by omega) (by omega)
  have hnF : nF N N1 := fun a ha => q3.1 a (by omega) (by omega) (by omega)
  rcases q6 with ⟨p, hp, rfl, g1, g2⟩ | ⟨rfl, g1, m, cnt, hm, i1, i2, i3, i4, i5, i6⟩
  · refine ⟨-4, C1, N1, n, ?_, ?_, Rel_sc (sc_FrC q2) (sc_FrN q3) hR0, hcF, hnF⟩
    · show f_X9_desk C = _
      have hp1 : ¬ nI p = -1 := nI_nm1 (by omega)
      unfold f_X9_desk
      rw [q1, Option.bind_some]
      dsimp only
      rw [if_neg hp1]
    · show f_X10_desk N = _
      unfold f_X10_desk
      rw [g1, Option.bind_some]
      dsimp only
      rw [if_pos rfl]
  · obtain ⟨hn, h7, ⟨t1, t2, t3, t4, t5⟩, hy, ⟨u, q, hu, hq, p1, p2, p3, p4⟩, hk, hs, ht, hw⟩ := hR
    have cr : ∀ a, 11 ≤ a → a < 20 → C1 a = C a := fun a h1 h2 => q2.1 a (by omega) (by omega) (by omega) (by omega)
    have hT0 : tolS C1 (n, cp, tm) := by
      refine ⟨hn, by rw [cr 11 (by decide) (by decide)]; exact t1, by rw [cr 11 (by decide) (by decide)]; exact t2, fun k hk => by rw [cr 12 (by decide) (by decide), t3 k hk]; exact (q5 k hk).symm, by rw [cr 12 (by decide) (by decide)]; exact t4, fun c hc => ?_⟩
      rw [cr (14 + c) (by omega) (by have : c < n := hc; omega)]
      obtain ⟨z1, z2, z3⟩ := q4 c hc
      obtain ⟨k0, k1, k2, kr⟩ := t5 c hc
      show sKd (cp (3 * c)) _ ∧ cp (3 * c + 1) = _ ∧ cp (3 * c + 2) = _ ∧ _
      rw [z1, z2, z3]
      exact ⟨k0, k1, k2, kr⟩
    obtain ⟨C2, a1, a2, a3⟩ := tell_L (k := fun v16 M17 => (some (tm_st M17 2 4 0)).bind fun M18 => (f_X9_begin M18).bind fun M22 => some (nI m, M22)) (x := nI m) hm rfl i6 m 1000 0 C1 (by omega) (by omega) rfl rfl rfl hT0
    rw [← i5] at a2
    have a2' : tolS (tm_st C2 2 4 0) (cnt, N1 140, N1 141) := by
      obtain ⟨z1, z2, z3, z4, z5, z6⟩ := a2
      refine ⟨z1, by rw [tm_stn _ _ _ (by decide)]; exact z2, by rw [tm_stn _ _ _ (by decide)]; exact z3, fun k hk => by rw [tm_stn _ _ _ (by decide)]; exact z4 k hk, by rw [tm_stn _ _ _ (by decide)]; exact z5, fun c hc => ?_⟩
      rw [tm_stn _ _ _ (by omega)]
      exact z6 c hc
    obtain ⟨C3, b1, b2, b3, b4, b5, b6, b7, b8, b9, b10, b11⟩ := c_begin a2'
    -- the reference
    have n0 : ∀ a, a ≠ 127 → tm_st (tm_st N1 127 13 0) 127 7 (nI cnt) a = N1 a := fun a h => by rw [tm_stn _ _ _ h, tm_stn _ _ _ h]
    have n07 : tm_st (tm_st N1 127 13 0) 127 7 (nI cnt) 127 7 = nI cnt := by rw [tm_sta, pk_us]
    have n013 : tm_st (tm_st N1 127 13 0) 127 7 (nI cnt) 127 13 = 0 := by rw [tm_sta, pk_un (by decide), tm_sta, pk_us]
    have n021 : tm_st (tm_st N1 127 13 0) 127 7 (nI cnt) 127 21 = nI m := by rw [tm_sta, pk_un (by decide), tm_sta, pk_un (by decide)]; exact i2
    have hnx : f_X10_desk N = f_X10_desk_L25 (fun v21 M22 => f_X10_desk_L87 (fun v28 M29 => (f_X10_layDesk M29).bind fun M32 => some (M32 127 21, M32)) 1000 0 M22) 1000 0 (tm_st (tm_st N1 127 13 0) 127 7 (nI cnt)) := by
      have e18 : tm_st N1 127 13 0 127 18 = nI cnt := by rw [tm_sta, pk_un (by decide)]; exact i3
      unfold f_X10_desk
      rw [g1, Option.bind_some]
      dsimp only
      rw [if_neg (show ¬ (1 : Int32) = 0 by decide), Option.bind_some, e18, Option.bind_some]
    generalize tm_st (tm_st N1 127 13 0) 127 7 (nI cnt) = N2 at n0 n07 n013 n021 hnx
    obtain ⟨N3, d1, d2, d3⟩ := dk_1 (N := N2) (k := fun v21 M22 => f_X10_desk_L87 (fun v28 M29 => (f_X10_layDesk M29).bind fun M32 => some (M32 127 21, M32)) 1000 0 M22) i4 n07 cnt 1000 0 N2 (by omega) (by omega) (fun _ _ _ _ => rfl) (fun c hc => absurd hc (Nat.not_lt_zero _))
    obtain ⟨P, e1, e2⟩ := dk_2 (N := N3) (k := fun v28 M29 => (f_X10_layDesk M29).bind fun M32 => some (M32 127 21, M32)) 6 1000 0 (N3 137) (by omega) (by omega) (fun c hc => absurd hc (Nat.not_lt_zero _))
    rw [tm_sr_self] at e1
    obtain ⟨N4, f1, f2, f3, f4, f5, f6, f7, f8, f9, f10, f11⟩ := m_layD (N := tm_sr N3 137 P) i4 (by rw [tm_sr_ne _ _ (by decide), d2 127 (by decide) (by decide) (by decide)]; exact n07)
    have n4 : ∀ a, a ≠ 127 → a ≠ 132 → a ≠ 133 → a ≠ 134 → a ≠ 135 → a ≠ 136 → a ≠ 137 → N4 a = N1 a := fun a h1 h2 h3 h4 h5 h6 h7 => by rw [f2 a h1 h2 h3, tm_sr_ne _ _ h7, d2 a h4 h5 h6, n0 a h1]
    have n4k : ∀ k, k ≠ 5 → k ≠ 15 → N4 127 k = N2 127 k := fun k h1 h2 => by rw [f3 k h1 h2, tm_sr_ne _ _ (by decide), d2 127 (by decide) (by decide) (by decide)]
    have n137 : ∀ k, k < 6 → N4 137 k = N1 141 k := fun k hk => by rw [f2 137 (by decide) (by decide) (by decide), tm_sr_at, e2 k hk, d2 141 (by decide) (by decide) (by decide), n0 141 (by decide)]
    have n3 : ∀ o, o = 134 ∨ o = 135 ∨ o = 136 → N4 o = N3 o := fun o ho => by rw [f2 o (by omega) (by omega) (by omega), tm_sr_ne _ _ (by omega)]
    have n140 : N2 140 = N1 140 := n0 140 (by decide)
    have c3 : ∀ a, a ≠ 0 → a ≠ 48 → a ≠ 2 → (a < 11 ∨ 29 ≤ a) → C3 a = C1 a := fun a h1 h2 h3 h4 => by rw [b11 a h1 h2 (by omega), tm_stn _ _ _ h3, a3 a (by omega)]
    have c3t : ∀ a, 11 ≤ a → a < 20 → C3 a = C2 a := fun a h1 h2 => by rw [b11 a (by omega) (by omega) (by omega), tm_stn _ _ _ (by omega)]
    refine ⟨nI m, C3, N4, cnt, ?_, ?_, ?_, fun a ha => by rw [c3 a (by omega) (by omega) (by omega) (by omega), hcF a ha], fun a ha => by rw [n4 a (by omega) (by omega) (by omega) (by omega) (by omega) (by omega) (by omega), hnF a ha]⟩
    · show f_X9_desk C = _
      unfold f_X9_desk
      rw [q1, Option.bind_some]
      dsimp only
      rw [if_pos rfl, Option.bind_some, i1]
      refine Eq.trans a1 ?_
      rw [Option.bind_some, b1, Option.bind_some]
    · refine Eq.trans hnx ?_
      refine Eq.trans d1 ?_
      refine Eq.trans e1 ?_
      rw [f1, Option.bind_some, n4k 21 (by decide) (by decide), n021]
    · obtain ⟨z1, z2, z3, z4, z5, z6⟩ := a2
      refine Rel_new i4 ((n4k 7 (by decide) (by decide)).trans n07) ⟨by rw [c3t 11 (by decide) (by decide)]; exact z2, by rw [c3t 11 (by decide) (by decide)]; exact z3, fun k hk => by rw [c3t 12 (by decide) (by decide), n137 k hk]; exact z4 k hk, by rw [c3t 12 (by decide) (by decide)]; exact z5, fun c hc => ?_⟩ (fun i hi => ?_) (fun k hk => ?_) b4 b5 b6 b7 b8 b9 ⟨q, hq, ?_⟩ f4 f5 f6 f7 f8 (fun c hc => ?_) f10 f11 ⟨0, by decide, ?_, ?_, fun i hi => absurd hi (Nat.not_lt_zero _)⟩ (fr_tab (fun a h1 h2 => ?_) hw)
      · unfold toldR
        obtain ⟨y1, y2, y3⟩ := d3 c hc
        rw [c3t (14 + c) (by omega) (by omega), n3 134 (by decide), n3 135 (by decide), n3 136 (by decide), y1, y2, y3, n140]
        exact z6 c hc
      · rw [c3t (14 + i) (by omega) (by omega)]
        have := b2 i hi
        rw [tm_stn _ _ _ (by omega)] at this
        exact this
      · rw [b3 k hk, tm_stn _ _ _ (by decide), c3t 12 (by decide) (by decide)]
      · rw [b10, tm_stn _ _ _ (by decide), a3 0 (by decide), q2.1 0 (by decide) (by decide) (by decide) (by decide)]; exact p3
      · have := f9 c hc
        rw [tm_sr_at, tm_sr_ne _ _ (show (136 : Nat) ≠ 137 by decide)] at this
        rw [n3 136 (by decide), this.1, this.2, f2 137 (by decide) (by decide) (by decide), tm_sr_at]
        exact ⟨rfl, rfl⟩
      · rw [b11 2 (by decide) (by decide) (by decide), tm_sta, pk_us]; rfl
      · rw [n4k 13 (by decide) (by decide), n013]; rfl
      · rw [n4 a (by omega) (by omega) (by omega) (by omega) (by omega) (by omega) (by omega)]
        exact q3.1 a (by omega) (by omega) (by omega)
