/-! CHANGE, UNDO, KEEP, BACK; terms; sights -/
theorem x6_get {M : tm_M} {o k : Nat} (ho : tm_shp o = 5) (hk : k < 6) : f_X6_get M o (nI k) = some (M o k) := by
  unfold f_X6_get
  rw [tm_gd_t ho]
  rcases (show k = 0 ∨ k = 1 ∨ k = 2 ∨ k = 3 ∨ k = 4 ∨ k = 5 by omega) with rfl | rfl | rfl | rfl | rfl | rfl <;> rfl
theorem x6_set {M : tm_M} {o k : Nat} {x : Int32} (ho : tm_shp o = 5) (hk : k < 6) : f_X6_set M o (nI k) x = some (tm_st M o k x) := by
  unfold f_X6_set
  rw [tm_gd_t ho]
  rcases (show k = 0 ∨ k = 1 ∨ k = 2 ∨ k = 3 ∨ k = 4 ∨ k = 5 by omega) with rfl | rfl | rfl | rfl | rfl | rfl <;> rfl
theorem lm_b {k : Nat} (hk : k < 6) : ∃ a b, tm_least k = nI a ∧ tm_most k = nI b ∧ a ≤ b ∧ b < 100 ∧ (k = 0 → b = 50) ∧ (k = 1 → b = 99) ∧ (k = 2 → b = 50) ∧ (k = 5 → b = 20) := by
  rcases (show k = 0 ∨ k = 1 ∨ k = 2 ∨ k = 3 ∨ k = 4 ∨ k = 5 by omega) with rfl | rfl | rfl | rfl | rfl | rfl
  · exact ⟨0, 50, rfl, rfl, by decide⟩
  · exact ⟨0, 99, rfl, rfl, by decide⟩
  · exact ⟨0, 50, rfl, rfl, by decide⟩
  · exact ⟨1, 99, rfl, rfl, by decide⟩
  · exact ⟨1, 99, rfl, rfl, by decide⟩
  · exact ⟨0, 20, rfl, rfl, by decide⟩
theorem tOK_set {T : LV} {k j b : Nat} (h : tOK T) (hj : j ≤ b) (h0 : k = 0 → b = 50) (h1 : k = 1 → b = 99) (h2 : k = 2 → b = 50) (h5 : k = 5 → b = 20) : tOK (upd T k (nI j)) := by
  obtain ⟨⟨x0, y0, z0⟩, ⟨x1, y1, z1⟩, ⟨x2, y2, z2⟩, ⟨x5, y5, z5⟩⟩ := h
  refine ⟨?_, ?_, ?_, ?_⟩
  · by_cases e : 0 = k
    · subst e
      exact ⟨j, by have := h0 rfl; omega, pk_us⟩
    · exact ⟨x0, y0, by rw [pk_un e]; exact z0⟩
  · by_cases e : 1 = k
    · subst e
      exact ⟨j, by have := h1 rfl; omega, pk_us⟩
    · exact ⟨x1, y1, by rw [pk_un e]; exact z1⟩
  · by_cases e : 2 = k
    · subst e
      exact ⟨j, by have := h2 rfl; omega, pk_us⟩
    · exact ⟨x2, y2, by rw [pk_un e]; exact z2⟩
  · by_cases e : 5 = k
    · subst e
      exact ⟨j, by have := h5 rfl; omega, pk_us⟩
    · exact ⟨x5, y5, by rw [pk_un e]; exact z5⟩
theorem o_term (x : Int32) : oOK (fun C => (f_X9_term C x).bind fun r => some (r, C)) (fun N => (f_X10_term N x).bind fun r => some (r, N)) := by
  intro C N n hR
  obtain ⟨hn, h7, d, hd, q2, q3, q4, q5⟩ := hR.d
  rcases in_out x (a := 0) (n := 5) (A := 0) (N := 5) rfl rfl (by decide) (by decide) with ⟨k, -, hk, rfl, e1, e2⟩ | ⟨e1, e2⟩
  · refine oo_same hR (C 21 k) ?_ ?_
    · simp only [f_X9_term, e1, Option.bind_some, if_true]
      rw [x6_get (by decide) (by omega), Option.bind_some, Option.bind_some]
    · simp only [f_X10_term, e2, Option.bind_some]
      rw [if_neg (by decide), show (1 : Int32) + nI k = nI (1 + k) from nI_add 1 k, tm_rdN (by omega) (by decide), Option.bind_some, Option.bind_some, ← q5.2.1 k (by omega), Nat.zero_add]
  · refine oo_same hR (-3) ?_ ?_
    · simp only [f_X9_term, e1, Option.bind_some]
      rw [if_neg (by decide), Option.bind_some]
    · simp only [f_X10_term, e2, Option.bind_some, if_true]
theorem o_change (x y : Int32) : oOK (fun C => f_X9_change C x y) (fun N => f_X10_change N x y) := by
  intro C N n hR
  have hw := hR.2.2.2.2.2.2.2.2
  rcases in_out x (a := 0) (n := 5) (A := 0) (N := 5) rfl rfl (by decide) (by decide) with ⟨k, -, hk, rfl, e1, e2⟩ | ⟨e1, e2⟩
  · obtain ⟨a, b, l1, l2, hab, hb, b0, b1, b2, b5⟩ := lm_b (k := k) (by omega)
    obtain ⟨-, w2, w3⟩ := hw.2 k (by omega)
    rcases in_out y (a := a) (n := b) (A := tm_least k) (N := tm_most k) l1 l2 hab (by omega) with ⟨j, hj1, hj2, rfl, e3, e4⟩ | ⟨e3, e4⟩
    · obtain ⟨C1, N1, r1, r2, hR1, c1, n1, n2, n3, f1, f2⟩ := o_rem hR
      obtain ⟨hn, h7, d, hd, q2, q3, q4, ⟨g1, g2, ⟨w, hw1, g3⟩, g4⟩⟩ := hR1.d
      refine ⟨C1 21 k, tm_sr C1 21 (upd (C1 21) k (nI j)), tm_sr N1 132 (upd (N1 132) (1 + k) (nI j)), n, ?_, ?_, Rel_now hR1 (fun a ha => tm_sr_ne _ _ (by omega)) (fun a ha => tm_sr_ne _ _ ha) (fun p hp => by rw [tm_sr_at, pk_un (by omega)]) ⟨d, hd, ?_, ?_, ?_, ?_, ?_, ?_, ?_⟩, ?_, ?_⟩
      · simp only [f_X9_change, e1, Option.bind_some, if_true]
        rw [tm_rdsN (by omega) (by decide), Option.bind_some, tm_rdsN (by omega) (by decide), Option.bind_some, e3, Option.bind_some, if_pos rfl, r1, Option.bind_some, x6_get (by decide) (by omega), Option.bind_some, x6_set (by decide) (by omega), Option.bind_some, tm_st_sr]
      · simp only [f_X10_change, e2, Option.bind_some]
        rw [if_neg (by decide), tm_rdN (by omega) (by decide), Option.bind_some, tm_rdN (by omega) (by decide), Option.bind_some, w2, w3, e4, Option.bind_some, if_neg (by decide), r2, Option.bind_some, show (1 : Int32) + nI k = nI (1 + k) from nI_add 1 k, tm_rdN (by omega) (by decide), Option.bind_some, tm_wrN (by omega) (by decide), Option.bind_some, tm_st_sr, ← g2 k (by omega), Nat.zero_add]
      · rw [tm_sr_ne _ _ (by decide)]; exact q2
      · rw [tm_sr_ne _ _ (by decide)]; exact q3
      · show tOK (tm_sr C1 21 (upd (C1 21) k (nI j)) 21)
        rw [tm_sr_at]
        exact tOK_set q4 hj2 b0 b1 b2 b5
      · rw [tm_sr_at, pk_un (by omega)]; exact g1
      · intro i hi
        show _ = tm_sr C1 21 (upd (C1 21) k (nI j)) 21 i
        rw [tm_sr_at, tm_sr_at]
        by_cases e : i = k
        · subst e
          rw [pk_us, pk_us]
        · rw [pk_un e, Nat.zero_add, pk_un (by omega), ← g2 i hi, Nat.zero_add]
      · refine ⟨w, hw1, ?_⟩
        rw [tm_sr_at, pk_un (by omega)]
        exact g3
      · intro c hc
        obtain ⟨v1, v2, v3⟩ := g4 c hc
        rw [tm_sr_at]
        show vR _ _ _ _ _ (tm_sr C1 21 (upd (C1 21) k (nI j)) (23 + c)) ∧ vOK d (tm_sr C1 21 (upd (C1 21) k (nI j)) (23 + c)) ∧ _
        rw [tm_sr_ne _ _ (show 23 + c ≠ 21 by omega)]
        refine ⟨vR_c (M := N1) (r := upd (N1 132) (1 + k) (nI j)) (b := 0) (by rw [tm_sr_ne _ _ (by decide)]) (by rw [tm_sr_ne _ _ (by decide)]) (fun i _ => rfl) (by omega) (lEq.rf _) (vR_ne (fun i hi => pk_un (by omega)) (by rw [pk_un (by omega)]) v1), v2, ?_⟩
        unfold tfOK
        rw [pk_un (by omega)]
        exact v3
      · intro a ha
        rw [tm_sr_ne _ _ (by omega), f1 a ha]
      · intro a ha
        rw [tm_sr_ne _ _ (by omega), f2 a ha]
    · refine oo_same hR (-3) ?_ ?_
      · simp only [f_X9_change, e1, Option.bind_some, if_true]
        rw [tm_rdsN (by omega) (by decide), Option.bind_some, tm_rdsN (by omega) (by decide), Option.bind_some, e3, Option.bind_some, if_neg (by decide)]
      · simp only [f_X10_change, e2, Option.bind_some]
        rw [if_neg (by decide), tm_rdN (by omega) (by decide), Option.bind_some, tm_rdN (by omega) (by decide), Option.bind_some, w2, w3, e4, Option.bind_some, if_pos rfl]
  · refine oo_same hR (-3) ?_ ?_
    · simp only [f_X9_change, e1, Option.bind_some]
      rw [if_neg (by decide)]
    · simp only [f_X10_change, e2, Option.bind_some, if_true]
/-- fewer days can be undone -/
theorem Rel_u {C N : tm_M} {n u u2 : Nat} (hR : Rel C N n) (h5 : N 127 5 = nI u) (hu : u ≤ 8) (hu2 : u2 ≤ u) : Rel (tm_st C 0 8 (nI u2)) (tm_st N 127 5 (nI u2)) n := by
  obtain ⟨hn, h7, hto, hy, ⟨u1, q, hu1, hq, p1, p2, p3, p4⟩, hk, hs, ht, hw⟩ := hR
  have eu : u1 = u := (nI_eq (by omega) (by omega)).mp (p1.symm.trans h5)
  subst eu
  have e : ∀ a, a ≠ 0 → tm_st C 0 8 (nI u2) a = C a := fun a ha => tm_stn _ _ _ ha
  have f : ∀ a, a ≠ 127 → tm_st N 127 5 (nI u2) a = N a := fun a ha => tm_stn _ _ _ ha
  have e0 : ∀ k, k ≠ 8 → tm_st C 0 8 (nI u2) 0 k = C 0 k := fun k hk => by rw [tm_sta, pk_un hk]
  have f0 : ∀ k, k ≠ 5 → tm_st N 127 5 (nI u2) 127 k = N 127 k := fun k hk => by rw [tm_sta, pk_un hk]
  refine ⟨hn, (f0 7 (by decide)).trans h7, fr_told hn (fun a h1 h2 => e a (by omega)) (fun a h1 h2 => f a (by omega)) hto, fr_y hn (fun a h1 h2 => e a (by omega)) (fun a h1 h2 => f a (by omega)) (fun p h1 h2 => by rw [f 132 (by decide)]) hy, ⟨u2, q, by omega, hq, by rw [tm_sta, pk_us], by rw [tm_sta, pk_us], (e0 7 (by decide)).trans p3, fun i hi => ?_⟩, fr_kept hn (fun a h1 h2 => e a (by omega)) (fun a h1 h2 => f a (by omega)) (fun p h1 h2 => by rw [f 132 (by decide)]) hk, fr_seen (e0 12 (by decide)) (fun a h1 h2 => e a (by omega)) (f0 15 (by decide)) (f 139 (by decide)) hs, fr_text (by rw [e 2 (by decide)]) (e 3 (by decide)) (f0 13 (by decide)) (f 138 (by decide)) ht, fr_tab (fun a h1 h2 => f a (by omega)) hw⟩
  have hm : (q + i) % 8 < 8 := Nat.mod_lt _ (by decide)
  exact fr_y hn (fun a h1 h2 => e a (by omega)) (fun a h1 h2 => f a (by omega)) (fun p h1 h2 => by rw [f 132 (by decide)]) (p4 i (by omega))
theorem m_cpy_self {M : tm_M} {a b : Nat} (ha : a + 56 ≤ 672) (hb : b + 56 ≤ 672) (hab : a + 56 ≤ b ∨ b + 56 ≤ a) : f_X10_copyDesk M (nI a) (nI b) = some (tm_sr M 132 (va_cpy (M 132) (M 132) a b 56)) := by
  have := m_copyDesk (M := M) (r := M 132) ha hb hab
  rw [tm_sr_self] at this
  exact this
theorem cpy_at {r : LV} {a b j : Nat} (hj : j < 56) : va_cpy r r a b 56 (b + j) = r (a + j) := by
  rw [pk_cpy_in (by omega) (by omega)]
  exact congrArg r (by omega)
theorem o_undo : oOK (fun C => f_X9_undo C) (fun N => f_X10_undo N) := by
  intro C N n hR
  have hR0 := hR
  obtain ⟨hn, h7, hto, hy, ⟨u, q, hu, hq, p1, p2, p3, p4⟩, hk, hs, ht, hw⟩ := hR
  by_cases z : u = 0
  · subst z
    refine oo_same hR0 (-4) ?_ ?_
    · simp only [f_X9_undo, p2]
      rw [if_neg (by decide)]
    · simp only [f_X10_undo, p1]
      rw [if_pos (by decide)]
  · obtain ⟨v, rfl⟩ : ∃ v, u = v + 1 := ⟨u - 1, by omega⟩
    have hR1 := Rel_u (u2 := v) hR0 p1 hu (by omega)
    have hm : (q + v) % 8 < 8 := Nat.mod_lt _ (by decide)
    have hp : yR (tm_st C 0 8 (nI v)) (tm_st N 127 5 (nI v)) (50 + 9 * ((q + v) % 8)) (56 + 56 * v) n := fr_y hn (fun a h1 h2 => by rw [tm_stn _ _ _ (by omega)]) (fun a h1 h2 => by rw [tm_stn _ _ _ (by omega)]) (fun p h1 h2 => by rw [tm_stn _ _ _ (by omega)]) (p4 v (by omega))
    have c0 : tm_st C 0 8 (nI v) 0 8 = nI v := by rw [tm_sta, pk_us]
    have c7 : tm_st C 0 8 (nI v) 0 7 = nI q := by rw [tm_sta, pk_un (by decide)]; exact p3
    have n5 : tm_st N 127 5 (nI v) 127 5 = nI v := by rw [tm_sta, pk_us]
    have cf : ∀ a, 127 ≤ a → tm_st C 0 8 (nI v) a = C a := fun a ha => tm_stn _ _ _ (by omega)
    have nf : ∀ a, a < 127 → tm_st N 127 5 (nI v) a = N a := fun a ha => tm_stn _ _ _ (by omega)
    have ex : ∀ F : tm_M → Option (Int32 × tm_M), (some (tm_st C 0 8 (nI (v + 1) - 1))).bind F = F (tm_st C 0 8 (nI v)) := fun F => by rw [Option.bind_some, nI_pred]
    have ey : ∀ F : tm_M → Option (Int32 × tm_M), (some (tm_st N 127 5 (nI (v + 1) - 1))).bind F = F (tm_st N 127 5 (nI v)) := fun F => by rw [Option.bind_some, nI_pred]
    simp only [f_X9_undo, f_X10_undo, p1, p2]
    rw [ex, ey, if_pos (show 0 < nI (v + 1) from nI_lt (a := 0) (by omega) (by omega)), if_neg (nI_ne0 (by omega) (by omega))]
    generalize tm_st C 0 8 (nI v) = C1 at hR1 hp c0 c7 cf ⊢
    generalize tm_st N 127 5 (nI v) = N1 at hR1 hp n5 nf ⊢
    obtain ⟨C2, g1, g2, g3, g4⟩ := yR_copy yS_20 (yS_p hm) (by omega) hn hp
    refine ⟨nI v, C2, tm_sr N1 132 (va_cpy (N1 132) (N1 132) (56 + 56 * v) 0 56), n, ?_, ?_, Rel_now hR1 (fun a ha => g4 a (by omega)) (fun a ha => tm_sr_ne _ _ ha) (fun p hp => by rw [tm_sr_at, pk_cpy_out (by omega)]) (g3 _ 0 (fun a h1 h2 => tm_sr_ne _ _ (by omega)) (fun j hj => by rw [tm_sr_at, cpy_at hj])), fun a ha => by rw [g4 a (by omega), cf a ha], fun a ha => by rw [tm_sr_ne _ _ (by omega), nf a ha]⟩
    · unfold f_X9_pastPlace
      rw [c0, c7, nI_add, tm_fm8 _ (by omega), Option.bind_some, Option.bind_some, tm_rdrN hm (by decide), Option.bind_some, ra_p, g1, Option.bind_some, g4 0 (by decide), c0]
    · rw [n5, show (56 : Int32) * nI v = nI (56 * v) from pk_mul 56 v, show (56 : Int32) + nI (56 * v) = nI (56 + 56 * v) from nI_add 56 _, show (0 : Int32) = nI 0 from rfl, m_cpy_self (by omega) (by omega) (by omega), Option.bind_some, tm_sr_ne _ _ (by decide), n5]
theorem o_keep (x : Int32) : oOK (fun C => f_X9_keep C x) (fun N => f_X10_keep N x) := by
  intro C N n hR
  have hR0 := hR
  obtain ⟨hn, h7, hto, hy, hp, hk, hs, ht, hw⟩ := hR
  rcases in_out x (a := 0) (n := 1) (A := 0) (N := 1) rfl rfl (by decide) (by decide) with ⟨k, -, hk1, rfl, e1, e2⟩ | ⟨e1, e2⟩
  · obtain ⟨C2, g1, g2, g3, g4⟩ := yR_copy (yS_k (show k < 2 by omega)) yS_20 (by omega) hn hy
    obtain ⟨-, -, d, hd, q2, q3, q4, q5⟩ := hR0.d
    have cc : ∀ a, a ≠ 48 → (a < 30 + 9 * k ∨ 30 + 9 * k + 9 ≤ a) → tm_st C2 48 k 1 a = C a := fun a h1 h2 => by rw [tm_stn _ _ _ h1, g4 a h2]
    have nn : ∀ a, a ≠ 133 → a ≠ 132 → tm_st (tm_sr N 132 (va_cpy (N 132) (N 132) 0 (504 + 56 * k) 56)) 133 k 1 a = N a := fun a h1 h2 => by rw [tm_stn _ _ _ h1, tm_sr_ne _ _ h2]
    have nr : ∀ p, (p < 504 + 56 * k ∨ 504 + 56 * k + 56 ≤ p) → tm_st (tm_sr N 132 (va_cpy (N 132) (N 132) 0 (504 + 56 * k) 56)) 133 k 1 132 p = N 132 p := fun p h => by rw [tm_stn _ _ _ (by decide), tm_sr_at, pk_cpy_out (by omega)]
    have nr2 : ∀ j, j < 56 → tm_st (tm_sr N 132 (va_cpy (N 132) (N 132) 0 (504 + 56 * k) 56)) 133 k 1 132 (504 + 56 * k + j) = N 132 (0 + j) := fun j h => by rw [tm_stn _ _ _ (by decide), tm_sr_at, cpy_at h]
    have nk : tm_st (tm_sr N 132 (va_cpy (N 132) (N 132) 0 (504 + 56 * k) 56)) 133 k 1 133 = upd (N 133) k 1 := by rw [tm_sta, tm_sr_ne _ _ (by decide)]
    have ck : tm_st C2 48 k 1 48 = upd (C 48) k 1 := by rw [tm_sta, g4 48 (by omega)]
    have ck2 : ∀ a, a ≠ 48 → tm_st C2 48 k 1 a = C2 a := fun a h => tm_stn _ _ _ h
    refine ⟨nI d, tm_st C2 48 k 1, tm_st (tm_sr N 132 (va_cpy (N 132) (N 132) 0 (504 + 56 * k) 56)) 133 k 1, n, ?_, ?_, ?_, ?_, ?_⟩
    · simp only [f_X9_keep, e1, Option.bind_some, if_true]
      rw [tm_rdrN (by omega) (by decide), Option.bind_some, ra_k, tm_gd_t (yS_k (by omega)).1, g1, Option.bind_some, tm_wrN (by omega) (by decide), Option.bind_some, tm_stn _ _ _ (by decide), g4 20 (by omega), q3]
    · simp only [f_X10_keep, e2, Option.bind_some]
      rw [if_neg (by decide), show (56 : Int32) * nI k = nI (56 * k) from pk_mul 56 k, show (504 : Int32) + nI (56 * k) = nI (504 + 56 * k) from nI_add 504 _, show (0 : Int32) = nI 0 from rfl, m_cpy_self (by omega) (by omega) (by omega), Option.bind_some, tm_wrN (by omega) (by decide), Option.bind_some, tm_rdN (by decide) (by decide), Option.bind_some, nr 0 (by omega), q5.1]
    · refine ⟨hn, by rw [nn 127 (by decide) (by decide)]; exact h7, fr_told hn (fun a h1 h2 => cc a (by omega) (by omega)) (fun a h1 h2 => nn a (by omega) (by omega)) hto, fr_y hn (fun a h1 h2 => cc a (by omega) (by omega)) (fun a h1 h2 => nn a (by omega) (by omega)) (fun p h1 h2 => nr p (by omega)) hy, fr_past hn (by rw [cc 0 (by decide) (by omega)]) (by rw [cc 0 (by decide) (by omega)]) (fun a h1 h2 => cc a (by omega) (by omega)) (by rw [nn 127 (by decide) (by decide)]) (fun a h1 h2 => nn a (by omega) (by omega)) (fun p h1 h2 => nr p (by omega)) hp, fun i hi => ?_, fr_seen (by rw [cc 0 (by decide) (by omega)]) (fun a h1 h2 => cc a (by omega) (by omega)) (by rw [nn 127 (by decide) (by decide)]) (nn 139 (by decide) (by decide)) hs, fr_text (by rw [cc 2 (by decide) (by omega)]) (cc 3 (by decide) (by omega)) (by rw [nn 127 (by decide) (by decide)]) (nn 138 (by decide) (by decide)) ht, fr_tab (fun a h1 h2 => nn a (by omega) (by omega)) hw⟩
      rw [nk, ck]
      by_cases e : i = k
      · subst e
        rw [pk_us, pk_us]
        refine ⟨Or.inr rfl, rfl, fun _ => ?_⟩
        exact fr_y hn (fun a h1 h2 => ck2 a (by omega)) (fun a h1 h2 => rfl) (fun p h1 h2 => rfl) (g3 (tm_st (tm_sr N 132 (va_cpy (N 132) (N 132) 0 (504 + 56 * i) 56)) 133 i 1) (504 + 56 * i) (fun a h1 h2 => nn a (by omega) (by omega)) nr2)
      · rw [pk_un e, pk_un e]
        obtain ⟨k1, k2, k3⟩ := hk i hi
        exact ⟨k1, k2, fun h => fr_y hn (fun a h1 h2 => cc a (by omega) (by omega)) (fun a h1 h2 => nn a (by omega) (by omega)) (fun p h1 h2 => nr p (by omega)) (k3 h)⟩
    · intro a ha
      exact cc a (by omega) (by omega)
    · intro a ha
      exact nn a (by omega) (by omega)
  · refine oo_same hR0 (-2) ?_ ?_
    · simp only [f_X9_keep, e1, Option.bind_some]
      rw [if_neg (by decide)]
    · simp only [f_X10_keep, e2, Option.bind_some, if_true]
theorem o_back (x : Int32) : oOK (fun C => f_X9_back C x) (fun N => f_X10_back N x) := by
  intro C N n hR
  have hR0 := hR
  obtain ⟨hn, h7, hto, hy, ⟨u, q, hu, hq, p1, p2, p3, p4⟩, hk, hs, ht, hw⟩ := hR
  rcases in_out x (a := 0) (n := 1) (A := 0) (N := 1) rfl rfl (by decide) (by decide) with ⟨k, -, hk1, rfl, e1, e2⟩ | ⟨e1, e2⟩
  · obtain ⟨k1, k2, k3⟩ := hk k (by omega)
    rcases k1 with k1 | k1
    · refine oo_same hR0 (-4) ?_ ?_
      · simp only [f_X9_back, e1, Option.bind_some, if_true]
        rw [tm_rdN (by omega) (by decide), Option.bind_some, if_pos k1]
      · simp only [f_X10_back, e2, Option.bind_some]
        rw [if_neg (by decide), tm_rdN (by omega) (by decide), Option.bind_some, if_pos (k2.trans k1)]
    · have hR1 := Rel_u (u2 := 0) hR0 p1 hu (by omega)
      have hy1 := k3 k1
      obtain ⟨C2, g1, g2, g3, g4⟩ := yR_copy yS_20 (yS_k (show k < 2 by omega)) (by omega) hn hy1
      have hyd := g3 (tm_sr N 132 (va_cpy (N 132) (N 132) (504 + 56 * k) 0 56)) 0 (fun a h1 h2 => tm_sr_ne _ _ (by omega)) (fun j hj => by rw [tm_sr_at, cpy_at hj])
      obtain ⟨d, hd, q2, q3, q4, q5⟩ := hyd
      have q50 := q5.1
      rw [tm_sr_at] at q50
      refine ⟨nI d, tm_st C2 0 8 0, tm_st (tm_sr N 132 (va_cpy (N 132) (N 132) (504 + 56 * k) 0 56)) 127 5 0, n, ?_, ?_, ?_, fun a ha => by rw [tm_stn _ _ _ (by omega), g4 a (by omega)], fun a ha => by rw [tm_stn _ _ _ (by omega), tm_sr_ne _ _ (by omega)]⟩
      · simp only [f_X9_back, e1, Option.bind_some, if_true]
        rw [tm_rdN (by omega) (by decide), Option.bind_some, if_neg (by rw [k1]; decide), tm_rdrN (by omega) (by decide), Option.bind_some, ra_k, g1, Option.bind_some, tm_stn _ _ _ (by decide), q3]
      · simp only [f_X10_back, e2, Option.bind_some]
        rw [if_neg (by decide), tm_rdN (by omega) (by decide), Option.bind_some, if_neg (by rw [k2, k1]; decide), show (56 : Int32) * nI k = nI (56 * k) from pk_mul 56 k, show (504 : Int32) + nI (56 * k) = nI (504 + 56 * k) from nI_add 504 _, show (0 : Int32) = nI 0 from rfl, m_cpy_self (by omega) (by omega) (by omega), Option.bind_some, tm_rdN (by decide) (by decide), Option.bind_some, tm_stn _ _ _ (by decide), tm_sr_at, q50]
      · refine Rel_now hR1 (fun a ha => ?_) (fun a ha => ?_) (fun p hp => ?_) (fr_y (C := C2) (N := tm_sr N 132 (va_cpy (N 132) (N 132) (504 + 56 * k) 0 56)) hn (fun a h1 h2 => tm_stn _ _ _ (by omega)) (fun a h1 h2 => tm_stn _ _ _ (by omega)) (fun p h1 h2 => by rw [tm_stn _ _ _ (by decide)]) ⟨d, hd, q2, q3, q4, q5⟩)
        · rw [tm_st_sr, tm_st_sr]
          by_cases e : a = 0
          · subst e
            rw [tm_sr_at, tm_sr_at, g4 0 (by decide)]
            rfl
          · rw [tm_sr_ne _ _ e, tm_sr_ne _ _ e, g4 a (by omega)]
        · rw [tm_st_sr, tm_st_sr]
          by_cases e : a = 127
          · subst e
            rw [tm_sr_at, tm_sr_at, tm_sr_ne _ _ (by decide)]
            rfl
          · rw [tm_sr_ne _ _ e, tm_sr_ne _ _ e, tm_sr_ne _ _ ha]
        · rw [tm_stn _ _ _ (by decide), tm_stn _ _ _ (by decide), tm_sr_at, pk_cpy_out (by omega)]
  · refine oo_same hR0 (-2) ?_ ?_
    · simp only [f_X9_back, e1, Option.bind_some]
      rw [if_neg (by decide)]
    · simp only [f_X10_back, e2, Option.bind_some, if_true]
