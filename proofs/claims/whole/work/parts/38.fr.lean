/-! FRAMES of the relation's pieces; arguments of calls -/
theorem in_out (x : Int32) {a n : Nat} {A N : Int32} (hA : A = nI a) (hN : N = nI n) (han : a ≤ n) (hn : n < 1000) : (∃ k, a ≤ k ∧ k ≤ n ∧ x = nI k ∧ f_X9_outside x A N = some 0 ∧ f_X10_in x A N = some 1) ∨ (f_X9_outside x A N = some 1 ∧ f_X10_in x A N = some 0) := by
  subst hA
  subst hN
  unfold f_X9_outside f_X10_in
  rcases pk_ix x (n := n + 1) (by omega) with h | h | ⟨j, hj, h⟩
  · have h1 : x < nI a := by
      rcases Int32.lt_iff_toInt_lt.mp h with hh
      rw [Int32.lt_iff_toInt_lt, nI_toInt (by omega)]
      have : x.toInt < 0 := by simpa using hh
      omega
    rw [if_pos h1, if_pos h1]
    exact Or.inr ⟨rfl, rfl⟩
  · have h0 := Int32.le_iff_toInt_le.mp h
    rw [nI_toInt (by omega)] at h0
    have h1 : ¬ x < nI a := by
      rw [Int32.lt_iff_toInt_lt, nI_toInt (by omega)]
      omega
    have h2 : nI n < x := by
      rw [Int32.lt_iff_toInt_lt, nI_toInt (by omega)]
      omega
    have h3 : ¬ x ≤ nI n := by
      rw [Int32.le_iff_toInt_le, nI_toInt (by omega)]
      omega
    rw [if_neg h1, if_neg h1, if_pos h2, if_neg h3]
    exact Or.inr ⟨rfl, rfl⟩
  · subst h
    by_cases h1 : j < a
    · rw [if_pos (nI_lt h1 (by omega)), if_pos (nI_lt h1 (by omega))]
      exact Or.inr ⟨rfl, rfl⟩
    · rw [if_neg (nI_nlt (by omega) (by omega)), if_neg (nI_nlt (by omega) (by omega)), if_pos (nI_le (by omega) (by omega)), if_neg (nI_nlt (by omega) (by omega))]
      exact Or.inl ⟨j, by omega, by omega, rfl, rfl, rfl⟩
theorem unk {C N : tm_M} {n : Nat} (x : Int32) (hR : Rel C N n) : (∃ c, c < n ∧ x = nI c ∧ f_X9_unknown C x = some 0 ∧ f_X10_isCouple N x = some 1) ∨ (f_X9_unknown C x = some 1 ∧ f_X10_isCouple N x = some 0) := by
  obtain ⟨hn, h7, -, ⟨d, -, hy, -⟩, -⟩ := hR
  unfold f_X9_unknown f_X10_isCouple f_X10_in
  rw [hy, h7]
  rcases pk_ix x (n := n) (by omega) with h | h | ⟨j, hj, h⟩
  · rw [if_pos h, if_pos h]
    exact Or.inr ⟨rfl, rfl⟩
  · have h0 := Int32.le_iff_toInt_le.mp h
    rw [nI_toInt (by omega)] at h0
    have h1 : ¬ x < 0 := by
      rw [Int32.lt_iff_toInt_lt]
      simp
      omega
    have h2 : nI n - 1 < x := by
      rw [Int32.lt_iff_toInt_lt, show nI n - 1 = nI n - nI 1 from rfl, pk_sub_toInt (by omega) (by omega)]
      omega
    rw [if_neg h1, if_neg h1, if_pos h, if_pos h2]
    exact Or.inr ⟨rfl, rfl⟩
  · subst h
    obtain ⟨m, rfl⟩ : ∃ m, n = m + 1 := ⟨n - 1, by omega⟩
    rw [if_neg (nI_pos (by omega)), if_neg (nI_pos (by omega)), if_neg (nI_ge hj (by omega)), nI_pred, if_neg (nI_nlt (by omega) (by omega)), if_pos (show nI j < 6 from nI_lt (b := 6) (by omega) (by decide))]
    exact Or.inl ⟨j, hj, rfl, rfl, rfl⟩
theorem tm_sta (M : tm_M) (o k : Nat) (x : Int32) : tm_st M o k x o = upd (M o) k x := by rw [tm_st_sr, tm_sr_at]
theorem tm_stn (M : tm_M) {o a : Nat} (k : Nat) (x : Int32) (h : a ≠ o) : tm_st M o k x a = M a := by rw [tm_st_sr, tm_sr_ne _ _ h]
theorem fr_told {C C' N N' : tm_M} {n : Nat} (hn : n ≤ 6) (hC : ∀ a, 11 ≤ a → a < 20 → C' a = C a) (hN : ∀ a, 134 ≤ a → a < 138 → N' a = N a) (h : R_told C N n) : R_told C' N' n := by
  obtain ⟨t1, t2, t3, t4, t5⟩ := h
  refine ⟨?_, ?_, fun k hk => ?_, ?_, fun c hc => ?_⟩
  · rw [hC 11 (by decide) (by decide)]; exact t1
  · rw [hC 11 (by decide) (by decide)]; exact t2
  · rw [hC 12 (by decide) (by decide), hN 137 (by decide) (by decide)]; exact t3 k hk
  · rw [hC 12 (by decide) (by decide)]; exact t4
  · unfold toldR
    rw [hC (14 + c) (by omega) (by omega), hN 134 (by decide) (by decide), hN 135 (by decide) (by decide), hN 136 (by decide) (by decide)]
    exact t5 c hc
theorem fr_y {C C' N N' : tm_M} {y b n : Nat} (hn : n ≤ 6) (hC : ∀ a, y ≤ a → a < y + 9 → C' a = C a) (hN : ∀ a, 134 ≤ a → a < 136 → N' a = N a) (hr : ∀ p, b ≤ p → p < b + 56 → N' 132 p = N 132 p) (h : yR C N y b n) : yR C' N' y b n :=
  yR_mv hn h (by rw [hC y (by omega) (by omega)]) (by rw [hC y (by omega) (by omega)]) (fun k _ => by rw [hC (y + 1) (by omega) (by omega)]) (fun c hc => by rw [hC (y + 3 + c) (by omega) (by omega)]; exact lEq.rf _) (fun c _ => by rw [hN 134 (by decide) (by decide)]) (fun c _ => by rw [hN 135 (by decide) (by decide)]) (fun j hj => hr _ (by omega) (by omega))
theorem fr_past {C C' N N' : tm_M} {n : Nat} (hn : n ≤ 6) (h7 : C' 0 7 = C 0 7) (h8 : C' 0 8 = C 0 8) (hC : ∀ a, 50 ≤ a → a < 122 → C' a = C a) (h5 : N' 127 5 = N 127 5) (hN : ∀ a, 134 ≤ a → a < 136 → N' a = N a) (hr : ∀ p, 56 ≤ p → p < 504 → N' 132 p = N 132 p) (h : R_past C N n) : R_past C' N' n := by
  obtain ⟨u, q, hu, hq, p1, p2, p3, p4⟩ := h
  refine ⟨u, q, hu, hq, h5.trans p1, h8.trans p2, h7.trans p3, fun i hi => ?_⟩
  have hm : (q + i) % 8 < 8 := Nat.mod_lt _ (by decide)
  exact fr_y hn (fun a h1 h2 => hC a (by omega) (by omega)) hN (fun p h1 h2 => hr p (by omega) (by omega)) (p4 i hi)
theorem fr_kept {C C' N N' : tm_M} {n : Nat} (hn : n ≤ 6) (hC : ∀ a, 30 ≤ a → a < 49 → C' a = C a) (hN : ∀ a, 133 ≤ a → a < 136 → N' a = N a) (hr : ∀ p, 504 ≤ p → p < 616 → N' 132 p = N 132 p) (h : R_kept C N n) : R_kept C' N' n := by
  intro k hk
  obtain ⟨g1, g2, g3⟩ := h k hk
  rw [hC 48 (by decide) (by decide), hN 133 (by decide) (by decide)]
  exact ⟨g1, g2, fun z => fr_y hn (fun a h1 h2 => hC a (by omega) (by omega)) (fun a h1 h2 => hN a (by omega) h2) (fun p h1 h2 => hr p (by omega) (by omega)) (g3 z)⟩
theorem fr_seen {C C' N N' : tm_M} {n : Nat} (h12 : C' 0 12 = C 0 12) (hC : ∀ a, 122 ≤ a → a < 125 → C' a = C a) (h15 : N' 127 15 = N 127 15) (hN : N' 139 = N 139) (h : R_seen C N n) : R_seen C' N' n := by
  obtain ⟨s, hs, s1, s2, s3⟩ := h
  refine ⟨s, hs, h12.trans s1, h15.trans s2, fun i hi => ?_⟩
  rw [hC 122 (by decide) (by decide), hC 123 (by decide) (by decide), hC 124 (by decide) (by decide), hN]
  exact s3 i hi
theorem fr_text {C C' N N' : tm_M} (h4 : C' 2 4 = C 2 4) (h3 : C' 3 = C 3) (h13 : N' 127 13 = N 127 13) (hN : N' 138 = N 138) (h : R_text C N) : R_text C' N' := by
  obtain ⟨t, ht, x1, x2, x3⟩ := h
  exact ⟨t, ht, h4.trans x1, h13.trans x2, fun i hi => by rw [h3, hN]; exact x3 i hi⟩
theorem fr_tab {N N' : tm_M} (hN : ∀ a, 128 ≤ a → a < 132 → N' a = N a) (h : R_tab N) : R_tab N' := by
  obtain ⟨w1, w2⟩ := h
  refine ⟨fun i hi => ?_, fun k hk => ?_⟩
  · rw [hN 128 (by decide) (by decide)]; exact w1 i hi
  · rw [hN 129 (by decide) (by decide), hN 130 (by decide) (by decide), hN 131 (by decide) (by decide)]; exact w2 k hk
/-- nothing changes -/
theorem oo_same {C N : tm_M} {n : Nat} (hR : Rel C N n) {x y : Option (Int32 × tm_M)} (r : Int32) (h1 : x = some (r, C)) (h2 : y = some (r, N)) : ∃ (r : Int32) (C1 N1 : tm_M) (n1 : Nat), x = some (r, C1) ∧ y = some (r, N1) ∧ Rel C1 N1 n1 ∧ cF C C1 ∧ nF N N1 :=
  ⟨r, C, N, n, h1, h2, hR, fun _ _ => rfl, fun _ _ => rfl⟩
theorem o_write (x : Int32) : oOK (fun C => f_X9_write C x) (fun N => f_X10_write N x) := by
  intro C N n hR
  have hR0 := hR
  obtain ⟨hn, h7, hto, hy, hp, hk, hs, ⟨t, ht, x1, x2, x3⟩, hw⟩ := hR
  rcases in_out x (a := 0) (n := 255) (A := 0) (N := 255) rfl rfl (by decide) (by decide) with ⟨k, -, hk1, ex, e1, e2⟩ | ⟨e1, e2⟩
  · have a0 : ¬ nI t < 0 := nI_pos (by omega)
    by_cases z : t = 160
    · subst z
      refine oo_same hR0 (-5) ?_ ?_
      · simp only [f_X9_write, e1, Option.bind_some, if_true, f_X7_append, x1, if_neg a0]
        rw [if_neg (show ¬ nI 160 < 160 by decide), Option.bind_some, if_pos rfl]
      · simp only [f_X10_write, e2, Option.bind_some, x2]
        rw [if_neg (by decide), if_pos (by decide)]
    · have a1 : nI t < 160 := nI_lt (b := 160) (by omega) (by decide)
      have a2 : ¬ nI t = 160 := fun e => z ((nI_eq (b := 160) (by omega) (by decide)).mp e)
      refine ⟨nI (t + 1), tm_st (tm_st C 3 t x) 2 4 (nI (t + 1)), tm_st (tm_st N 138 t x) 127 13 (nI (t + 1)), n, ?_, ?_, ⟨hn, ?_, ?_, ?_, ?_, ?_, ?_, ?_, ?_⟩, ?_, ?_⟩
      · simp only [f_X9_write, e1, Option.bind_some, if_true, f_X7_append, x1, if_neg a0, if_pos a1]
        rw [tm_wrN (by omega) (by decide)]
        simp only [Option.bind_some, tm_stn C t x (show (2 : Nat) ≠ 3 by decide), x1, nI_1]
        rw [if_neg (by decide), tm_sta, pk_us]
      · simp only [f_X10_write, e2, Option.bind_some, x2]
        rw [if_neg (by decide), if_neg a2, tm_wrN (by omega) (by decide)]
        simp only [Option.bind_some, tm_stn N t x (show (127 : Nat) ≠ 138 by decide), x2, nI_1]
        rw [tm_sta, pk_us]
      · rw [tm_sta, pk_un (by decide), tm_stn _ _ _ (by decide)]; exact h7
      · exact fr_told hn (fun a h1 h2 => by rw [tm_stn _ _ _ (by omega), tm_stn _ _ _ (by omega)]) (fun a h1 h2 => by rw [tm_stn _ _ _ (by omega), tm_stn _ _ _ (by omega)]) hto
      · exact fr_y hn (fun a h1 h2 => by rw [tm_stn _ _ _ (by omega), tm_stn _ _ _ (by omega)]) (fun a h1 h2 => by rw [tm_stn _ _ _ (by omega), tm_stn _ _ _ (by omega)]) (fun p h1 h2 => by rw [tm_stn _ _ _ (by omega), tm_stn _ _ _ (by omega)]) hy
      · exact fr_past hn (by rw [tm_stn _ _ _ (by omega), tm_stn _ _ _ (by omega)]) (by rw [tm_stn _ _ _ (by omega), tm_stn _ _ _ (by omega)]) (fun a h1 h2 => by rw [tm_stn _ _ _ (by omega), tm_stn _ _ _ (by omega)]) (by rw [tm_sta, pk_un (by decide), tm_stn _ _ _ (by omega)]) (fun a h1 h2 => by rw [tm_stn _ _ _ (by omega), tm_stn _ _ _ (by omega)]) (fun p h1 h2 => by rw [tm_stn _ _ _ (by omega), tm_stn _ _ _ (by omega)]) hp
      · exact fr_kept hn (fun a h1 h2 => by rw [tm_stn _ _ _ (by omega), tm_stn _ _ _ (by omega)]) (fun a h1 h2 => by rw [tm_stn _ _ _ (by omega), tm_stn _ _ _ (by omega)]) (fun p h1 h2 => by rw [tm_stn _ _ _ (by omega), tm_stn _ _ _ (by omega)]) hk
      · exact fr_seen (by rw [tm_stn _ _ _ (by omega), tm_stn _ _ _ (by omega)]) (fun a h1 h2 => by rw [tm_stn _ _ _ (by omega), tm_stn _ _ _ (by omega)]) (by rw [tm_sta, pk_un (by decide), tm_stn _ _ _ (by omega)]) (by rw [tm_stn _ _ _ (by omega), tm_stn _ _ _ (by omega)]) hs
      · refine ⟨t + 1, by omega, by rw [tm_sta, pk_us], by rw [tm_sta, pk_us], fun i hi => ?_⟩
        rw [show tm_st (tm_st C 3 t x) 2 4 (nI (t + 1)) 3 = tm_st C 3 t x 3 from tm_stn _ _ _ (by decide), show tm_st (tm_st N 138 t x) 127 13 (nI (t + 1)) 138 = tm_st N 138 t x 138 from tm_stn _ _ _ (by decide), tm_sta, tm_sta]
        by_cases e : i = t
        · subst e
          rw [pk_us, pk_us]
        · rw [pk_un e, pk_un e]
          exact x3 i (by omega)
      · exact fr_tab (fun a h1 h2 => by rw [tm_stn _ _ _ (by omega), tm_stn _ _ _ (by omega)]) hw
      · intro a ha
        rw [tm_stn _ _ _ (by omega), tm_stn _ _ _ (by omega)]
      · intro a ha
        rw [tm_stn _ _ _ (by omega), tm_stn _ _ _ (by omega)]
  · refine oo_same hR0 (-3) ?_ ?_
    · simp only [f_X9_write, e1, Option.bind_some]
      rw [if_neg (by decide)]
    · simp only [f_X10_write, e2, Option.bind_some, if_true]
theorem o_erase : oOK (fun C => f_X9_erase C) (fun N => f_X10_erase N) := by
  intro C N n hR
  obtain ⟨hn, h7, hto, hy, hp, hk, hs, ⟨t, ht, x1, x2, x3⟩, hw⟩ := hR
  refine ⟨nI t, tm_st C 2 4 0, tm_st N 127 13 0, n, ?_, ?_, ⟨hn, ?_, ?_, ?_, ?_, ?_, ?_, ?_, ?_⟩, ?_, ?_⟩
  · simp only [f_X9_erase, Option.bind_some, x1]
  · simp only [f_X10_erase, Option.bind_some, x2]
  · rw [tm_sta, pk_un (by decide)]; exact h7
  · exact fr_told hn (fun a h1 h2 => by rw [tm_stn _ _ _ (by omega)]) (fun a h1 h2 => by rw [tm_stn _ _ _ (by omega)]) hto
  · exact fr_y hn (fun a h1 h2 => by rw [tm_stn _ _ _ (by omega)]) (fun a h1 h2 => by rw [tm_stn _ _ _ (by omega)]) (fun p h1 h2 => by rw [tm_stn _ _ _ (by omega)]) hy
  · exact fr_past hn (by rw [tm_stn _ _ _ (by omega)]) (by rw [tm_stn _ _ _ (by omega)]) (fun a h1 h2 => by rw [tm_stn _ _ _ (by omega)]) (by rw [tm_sta, pk_un (by decide)]) (fun a h1 h2 => by rw [tm_stn _ _ _ (by omega)]) (fun p h1 h2 => by rw [tm_stn _ _ _ (by omega)]) hp
  · exact fr_kept hn (fun a h1 h2 => by rw [tm_stn _ _ _ (by omega)]) (fun a h1 h2 => by rw [tm_stn _ _ _ (by omega)]) (fun p h1 h2 => by rw [tm_stn _ _ _ (by omega)]) hk
  · exact fr_seen (by rw [tm_stn _ _ _ (by omega)]) (fun a h1 h2 => by rw [tm_stn _ _ _ (by omega)]) (by rw [tm_sta, pk_un (by decide)]) (by rw [tm_stn _ _ _ (by omega)]) hs
  · refine ⟨0, by omega, by rw [tm_sta, pk_us]; rfl, by rw [tm_sta, pk_us]; rfl, fun i hi => absurd hi (Nat.not_lt_zero _)⟩
  · exact fr_tab (fun a h1 h2 => by rw [tm_stn _ _ _ (by omega)]) hw
  · intro a ha
    rw [tm_stn _ _ _ (by omega)]
  · intro a ha
    rw [tm_stn _ _ _ (by omega)]
