/-! YEARS: what is remembered, days, kisses, visits, changes; undone, kept, back -/
theorem tm_fm8 : ∀ a, a < 16 → f_J9_floorMod_7cf53 (nI a) 8 = some (nI (a % 8)) := by decide +kernel
theorem yR_copy {C N : tm_M} {y1 y2 b n : Nat} (h1 : yS y1) (h2 : yS y2) (hs : y1 + 9 ≤ y2 ∨ y2 + 9 ≤ y1) (hn : n ≤ 6) (h : yR C N y2 b n) :
    ∃ C' : tm_M, f_X8_copy C y1 y2 = some C' ∧ C' y1 3 = C y2 3 ∧ (∀ (N' : tm_M) (b' : Nat), (∀ a, 134 ≤ a → a < 136 → N' a = N a) → (∀ j, j < 56 → N' 132 (b' + j) = N 132 (b + j)) → yR C' N' y1 b' n) ∧ ∀ a, (a < y1 ∨ y1 + 9 ≤ a) → C' a = C a := by
  have h0 := h
  obtain ⟨d, hd, q2, q3, q4, q5⟩ := h
  obtain ⟨C', g1, g2, g3, g4, g5, g6⟩ := c_copyY (M := C) h1 h2 hs hn q2 (fun i hi => (q5.2.2.2 i hi).2.1.k)
  exact ⟨C', g1, g5, fun N' b' hN hr => yR_mv hn h0 (g4.trans q2.symm) g5 g3 g2 (fun c _ => by rw [hN 134 (by decide) (by decide)]) (fun c _ => by rw [hN 135 (by decide) (by decide)]) hr, g6⟩
theorem ra_p (i : Nat) : tm_ra 49 i = 50 + 9 * i := by
  unfold tm_ra
  rw [if_neg (by decide), if_neg (by decide), if_pos rfl]
theorem ra_k (i : Nat) : tm_ra 29 i = 30 + 9 * i := by
  unfold tm_ra
  rw [if_neg (by decide), if_pos rfl]
/-- the reference forgets its oldest past -/
def rShift (r : LV) (v : Nat) : LV := fun p => if 56 ≤ p ∧ p < 56 + v then r (p + 56) else r p
theorem m_shift {M : tm_M} {r : LV} {k : Int32 → tm_M → Option tm_M} (h8 : M 127 5 = 8) : ∀ (j n v : Nat), v + j = 392 → j < n → f_X10_keepPast_L2 k n (nI v) (tm_sr M 132 (rShift r v)) = k (nI 392) (tm_sr M 132 (rShift r 392)) := by
  intro j
  induction j with
  | zero =>
    intro n v hv hn
    obtain ⟨n, rfl⟩ : ∃ m, n = m + 1 := ⟨n - 1, by omega⟩
    have : v = 392 := by omega
    subst this
    rw [f_X10_keepPast_L2, if_pos (show (392 : Int32) ≤ nI 392 by decide)]
  | succ j ih =>
    intro n v hv hn
    obtain ⟨n, rfl⟩ : ∃ m, n = m + 1 := ⟨n - 1, by omega⟩
    rw [f_X10_keepPast_L2, if_neg (show ¬ (392 : Int32) ≤ nI v from nI_ge (b := 392) (by omega) (by decide)), tm_sr_ne _ _ (show (127 : Nat) ≠ 132 by decide), if_pos h8, show (112 : Int32) + nI v = nI (112 + v) from nI_add 112 v, tm_rdN (by omega) (by decide), Option.bind_some, show (56 : Int32) + nI v = nI (56 + v) from nI_add 56 v, tm_wrN (by omega) (by decide), Option.bind_some, nI_1, tm_st_sr, tm_sr_sr, tm_sr_at]
    have e : upd (rShift r v) (56 + v) (rShift r v (112 + v)) = rShift r (v + 1) := by
      funext p
      by_cases hp : p = 56 + v
      · subst hp
        rw [pk_us]
        unfold rShift
        rw [if_neg (by omega), if_pos (by omega)]
        congr 1
        omega
      · rw [pk_un hp]
        unfold rShift
        by_cases hq : 56 ≤ p ∧ p < 56 + v
        · rw [if_pos hq, if_pos (by omega)]
        · rw [if_neg hq, if_neg (by omega)]
    rw [e]
    exact ih n (v + 1) (by omega) (by omega)
/-- the reference keeps its past: what stands in its row then -/
theorem m_keep {M : tm_M} {u : Nat} (hu : u ≤ 8) (h5 : M 127 5 = nI u) :
    ∃ (r : LV) (x : Nat), f_X10_keepPast M = some (tm_sr (tm_st M 127 5 (nI x)) 132 r) ∧ x = (if u = 8 then 8 else u + 1) ∧ (∀ p, p < 56 → r p = M 132 p) ∧ (∀ p, 504 ≤ p → r p = M 132 p) ∧ (∀ j, j < 56 → r (56 * x + j) = M 132 j) ∧ ∀ i j, i + 1 < x → j < 56 → r (56 + 56 * i + j) = M 132 (56 + 56 * (if u = 8 then i + 1 else i) + j) := by
  by_cases h8 : u = 8
  · subst h8
    have e := m_shift (M := M) (r := M 132) (k := fun v7 M8 => if (M8 127 5) = 8 then (some (tm_st M8 127 5 ((M8 127 5) - 1))).bind fun M17 => (f_X10_copyDesk M17 0 (56 + (56 * (M17 127 5)))).bind fun M21 => (some (tm_st M21 127 5 ((M21 127 5) + 1))).bind fun M22 => some M22 else (some (tm_st M8 127 5 ((M8 127 5) - 0))).bind fun M10 => (f_X10_copyDesk M10 0 (56 + (56 * (M10 127 5)))).bind fun M14 => (some (tm_st M14 127 5 ((M14 127 5) + 1))).bind fun M15 => some M15) h5 392 1000 0 (by omega) (by omega)
    have e0 : rShift (M 132) 0 = M 132 := by
      funext p
      unfold rShift
      rw [if_neg (by omega)]
    rw [e0, tm_sr_self] at e
    refine ⟨va_cpy (rShift (M 132) 392) (rShift (M 132) 392) 0 448 56, 8, ?_, by rw [if_pos rfl], fun p hp => ?_, fun p hp => ?_, fun j hj => ?_, fun i j hi hj => ?_⟩
    · refine Eq.trans e ?_
      generalize rShift (M 132) 392 = r
      have e1 : tm_st (tm_sr M 132 r) 127 5 (tm_sr M 132 r 127 5 - 1) = tm_sr (tm_st M 127 5 7) 132 r := by
        rw [tm_sr_ne _ _ (show (127 : Nat) ≠ 132 by decide), h5]
        funext a
        rw [tm_st_sr, tm_sr_ne _ _ (show (127 : Nat) ≠ 132 by decide), tm_st_sr]
        by_cases ha : a = 127
        · subst ha
          rw [tm_sr_at, tm_sr_ne _ _ (by decide), tm_sr_at]
          rfl
        · rw [tm_sr_ne _ _ ha]
          by_cases hb : a = 132
          · subst hb
            rw [tm_sr_at, tm_sr_at]
          · rw [tm_sr_ne _ _ hb, tm_sr_ne _ _ hb, tm_sr_ne _ _ ha]
      rw [if_pos (by rw [tm_sr_ne _ _ (show (127 : Nat) ≠ 132 by decide)]; exact h5), Option.bind_some, e1, tm_sr_ne _ _ (show (127 : Nat) ≠ 132 by decide), tm_sta, pk_us, show (56 : Int32) + 56 * 7 = nI 448 by decide, show (0 : Int32) = nI 0 from rfl, m_copyDesk (by decide) (by decide) (by decide), Option.bind_some, tm_sr_ne _ _ (show (127 : Nat) ≠ 132 by decide), tm_sta, pk_us, Option.bind_some]
      congr 1
      funext a
      by_cases ha : a = 127
      · subst ha
        rw [tm_sta, tm_sr_ne _ _ (by decide), tm_sr_ne _ _ (by decide), tm_sta, tm_sta]
        funext k
        by_cases hk : k = 5
        · subst hk
          rw [pk_us, pk_us]
          rfl
        · rw [pk_un hk, pk_un hk, pk_un hk]
      · rw [tm_stn _ _ _ ha]
        by_cases hb : a = 132
        · subst hb
          rw [tm_sr_at, tm_sr_at]
        · rw [tm_sr_ne _ _ hb, tm_sr_ne _ _ hb, tm_stn _ _ _ ha, tm_stn _ _ _ ha]
    · rw [pk_cpy_out (by omega)]
      unfold rShift
      rw [if_neg (by omega)]
    · rw [pk_cpy_out (by omega)]
      unfold rShift
      rw [if_neg (by omega)]
    · rw [pk_cpy_in (by omega) (by omega)]
      unfold rShift
      rw [if_neg (by omega)]
      exact congrArg (M 132) (by omega)
    · rw [pk_cpy_out (by omega), if_pos rfl]
      unfold rShift
      rw [if_pos (by omega)]
      exact congrArg (M 132) (by omega)
  · have n8 : ¬ nI u = 8 := fun e => h8 ((nI_eq (b := 8) (by omega) (by decide)).mp e)
    refine ⟨va_cpy (M 132) (M 132) 0 (56 + 56 * u) 56, u + 1, ?_, by rw [if_neg h8], fun p hp => ?_, fun p hp => ?_, fun j hj => ?_, fun i j hi hj => ?_⟩
    · unfold f_X10_keepPast
      rw [show (1000 : Nat) = 999 + 1 from rfl, f_X10_keepPast_L2, if_neg (by decide), h5, if_neg n8, if_neg n8, Option.bind_some, show nI u - 0 = nI u by simp]
      have e1 : tm_st M 127 5 (nI u) = M := by rw [tm_st_sr, ← h5, tm_up_same, tm_sr_self]
      rw [e1, h5, show (56 : Int32) * nI u = nI (56 * u) from pk_mul 56 u, show (56 : Int32) + nI (56 * u) = nI (56 + 56 * u) from nI_add 56 _]
      have e2 := m_copyDesk (M := M) (r := M 132) (a := 0) (b := 56 + 56 * u) (by decide) (by omega) (by omega)
      rw [tm_sr_self] at e2
      rw [show (0 : Int32) = nI 0 from rfl, e2, Option.bind_some, tm_sr_ne _ _ (show (127 : Nat) ≠ 132 by decide), h5, nI_1, Option.bind_some]
      congr 1
      funext a
      by_cases ha : a = 127
      · subst ha
        rw [tm_sta, tm_sr_ne _ _ (by decide), tm_sr_ne _ _ (by decide), tm_sta]
      · rw [tm_stn _ _ _ ha]
        by_cases hb : a = 132
        · subst hb
          rw [tm_sr_at, tm_sr_at]
        · rw [tm_sr_ne _ _ hb, tm_sr_ne _ _ hb, tm_stn _ _ _ ha]
    · rw [pk_cpy_out (by omega)]
    · rw [pk_cpy_out (by omega)]
    · rw [pk_cpy_in (by omega) (by omega)]
      exact congrArg (M 132) (by omega)
    · rw [pk_cpy_out (by omega), if_neg h8]
/-- both remember: then the relation holds, and now stands as it stood -/
theorem o_rem {C N : tm_M} {n : Nat} (hR : Rel C N n) : ∃ C1 N1 : tm_M, f_X9_remember C = some C1 ∧ f_X10_keepPast N = some N1 ∧ Rel C1 N1 n ∧ (∀ a, 11 ≤ a → a < 50 → C1 a = C a) ∧ (∀ a, a ≠ 127 → a ≠ 132 → N1 a = N a) ∧ (∀ p, p < 56 → N1 132 p = N 132 p) ∧ N1 127 7 = N 127 7 ∧ cF C C1 ∧ nF N N1 := by
  obtain ⟨hn, h7, hto, hy, ⟨u, q, hu, hq, p1, p2, p3, p4⟩, hk, hs, ht, hw⟩ := hR
  obtain ⟨r, x, ek, hx, r1, r2, r3, r4⟩ := m_keep hu p1
  have nne : ∀ a, a ≠ 127 → a ≠ 132 → tm_sr (tm_st N 127 5 (nI x)) 132 r a = N a := fun a h1 h2 => by rw [tm_sr_ne _ _ h2, tm_stn _ _ _ h1]
  have n132 : tm_sr (tm_st N 127 5 (nI x)) 132 r 132 = r := tm_sr_at _ _ _
  have n127 : ∀ k, k ≠ 5 → tm_sr (tm_st N 127 5 (nI x)) 132 r 127 k = N 127 k := fun k hk => by rw [tm_sr_ne _ _ (by decide), tm_sta, pk_un hk]
  have n5 : tm_sr (tm_st N 127 5 (nI x)) 132 r 127 5 = nI x := by rw [tm_sr_ne _ _ (by decide), tm_sta, pk_us]
  have hnF : nF N (tm_sr (tm_st N 127 5 (nI x)) 132 r) := fun a ha => nne a (by omega) (by omega)
  have hx8 : x ≤ 8 := by rw [hx]; split <;> omega
  have hx1 : 1 ≤ x := by rw [hx]; split <;> omega
  generalize tm_sr (tm_st N 127 5 (nI x)) 132 r = N1 at ek nne n132 n127 n5 hnF ⊢
  -- the class: q2 the oldest then
  have key : ∀ (C0 : tm_M) (q2 : Nat), q2 < 8 → (∀ a, a ≠ 0 → C0 a = C a) → C0 0 12 = C 0 12 → C0 0 8 = nI (x - 1) → C0 0 7 = nI q2 → (∀ i, i + 1 < x → (q2 + i) % 8 = (q + (if u = 8 then i + 1 else i)) % 8 ∧ (if u = 8 then i + 1 else i) < u) →
      (∃ C1 : tm_M, ((f_X9_pastPlace C0 (C0 0 8)).bind fun r18 => (tm_rdr 49 8 r18).bind fun x20 => tm_gd (tm_shp x20 = 7) <| (f_X8_copy C0 x20 20).bind fun M24 => (some (tm_st M24 0 8 ((M24 0 8) + 1))).bind fun M26 => some M26) = some C1 ∧ Rel C1 N1 n ∧ (∀ a, 11 ≤ a → a < 50 → C1 a = C a) ∧ cF C C1) := by
    intro C0 q2 hq2 c0 c12 c8 c7 cq
    have hm : (q2 + (x - 1)) % 8 < 8 := Nat.mod_lt _ (by decide)
    have hy0 : yR C0 N 20 0 n := fr_y hn (fun a h1 h2 => c0 a (by omega)) (fun a h1 h2 => rfl) (fun p h1 h2 => rfl) hy
    obtain ⟨C2, g1, g2, g3, g4⟩ := yR_copy (y1 := 50 + 9 * ((q2 + (x - 1)) % 8)) (yS_p hm) yS_20 (by omega) hn hy0
    have c2 : ∀ a, 11 ≤ a → a < 50 → C2 a = C a := fun a h1 h2 => by rw [g4 a (by omega), c0 a (by omega)]
    have c2b : ∀ a, 122 ≤ a → C2 a = C a := fun a h1 => by rw [g4 a (by omega), c0 a (by omega)]
    have c2c : ∀ a, 0 < a → a < 11 → C2 a = C a := fun a h1 h2 => by rw [g4 a (by omega), c0 a (by omega)]
    have c20 : C2 0 = C0 0 := g4 0 (by omega)
    refine ⟨tm_st C2 0 8 (nI x), ?_, ⟨hn, (n127 7 (by decide)).trans h7, ?_, ?_, ⟨x, q2, hx8, hq2, n5, by rw [tm_sta, pk_us], by rw [tm_sta, pk_un (by decide), c20]; exact c7, fun i hi => ?_⟩, ?_, ?_, ?_, ?_⟩, fun a h1 h2 => ?_, fun a h1 => ?_⟩
    · unfold f_X9_pastPlace
      rw [c8, c7, nI_add, tm_fm8 _ (by omega), Option.bind_some, Option.bind_some, tm_rdrN hm (by decide), Option.bind_some, ra_p, tm_gd_t (yS_p hm).1, g1, Option.bind_some, c20, c8, nI_1, show x - 1 + 1 = x by omega, Option.bind_some]
    · exact fr_told hn (fun a h1 h2 => by rw [tm_stn _ _ _ (by omega), c2 a h1 (by omega)]) (fun a h1 h2 => nne a (by omega) (by omega)) hto
    · exact fr_y hn (fun a h1 h2 => by rw [tm_stn _ _ _ (by omega), c2 a (by omega) (by omega)]) (fun a h1 h2 => nne a (by omega) (by omega)) (fun p h1 h2 => by rw [n132, r1 p (by omega)]) hy
    · by_cases hi2 : i = x - 1
      · have := g3 N1 (56 + 56 * i) (fun a h1 h2 => nne a (by omega) (by omega)) (fun j hj => by rw [n132, show 56 + 56 * i + j = 56 * x + j by omega, r3 j hj, Nat.zero_add])
        rw [← hi2] at this
        exact fr_y hn (fun a h1 h2 => by rw [tm_stn _ _ _ (by omega)]) (fun a h1 h2 => rfl) (fun p h1 h2 => rfl) this
      · obtain ⟨e1, e2⟩ := cq i (by omega)
        have h4 := p4 _ e2
        rw [← e1] at h4
        have hne : (q2 + i) % 8 ≠ (q2 + (x - 1)) % 8 := by omega
        have hm2 : (q2 + i) % 8 < 8 := Nat.mod_lt _ (by decide)
        have g4' : ∀ a, 50 + 9 * ((q2 + i) % 8) ≤ a → a < 50 + 9 * ((q2 + i) % 8) + 9 → tm_st C2 0 8 (nI x) a = C a := fun a h1 h2 => by rw [tm_stn _ _ _ (by omega), g4 a (by omega), c0 a (by omega)]
        exact yR_mv hn h4 (by rw [g4' _ (by omega) (by omega)]) (by rw [g4' _ (by omega) (by omega)]) (fun k _ => by rw [g4' _ (by omega) (by omega)]) (fun c hc => by rw [g4' _ (by omega) (by omega)]; exact lEq.rf _) (fun c _ => by rw [nne 134 (by decide) (by decide)]) (fun c _ => by rw [nne 135 (by decide) (by decide)]) (fun j hj => by rw [n132, r4 i j (by omega) hj])
    · exact fr_kept hn (fun a h1 h2 => by rw [tm_stn _ _ _ (by omega), c2 a (by omega) (by omega)]) (fun a h1 h2 => nne a (by omega) (by omega)) (fun p h1 h2 => by rw [n132, r2 p h1]) hk
    · exact fr_seen (by rw [tm_sta, pk_un (by decide), c20]; exact c12) (fun a h1 h2 => by rw [tm_stn _ _ _ (by omega), c2b a h1]) (n127 15 (by decide)) (nne 139 (by decide) (by decide)) hs
    · exact fr_text (by rw [tm_stn _ _ _ (by omega), c2c 2 (by decide) (by decide)]) (by rw [tm_stn _ _ _ (by omega), c2c 3 (by decide) (by decide)]) (n127 13 (by decide)) (nne 138 (by decide) (by decide)) ht
    · exact fr_tab (fun a h1 h2 => nne a (by omega) (by omega)) hw
    · rw [tm_stn _ _ _ (by omega), c2 a h1 h2]
    · rw [tm_stn _ _ _ (by omega), c2b a (by omega)]
  by_cases h8 : u = 8
  · subst h8
    have hx9 : x = 8 := by rw [hx, if_pos rfl]
    have n8 : ¬ nI 8 < 8 := by decide
    have hm : (q + 1) % 8 < 8 := Nat.mod_lt _ (by decide)
    obtain ⟨C1, f1, f2, f3, f4⟩ := key (tm_st (tm_st C 0 7 (nI ((q + 1) % 8))) 0 8 7) ((q + 1) % 8) hm (fun a ha => by rw [tm_stn _ _ _ ha, tm_stn _ _ _ ha]) (by rw [tm_sta, pk_un (by decide), tm_sta, pk_un (by decide)]) (by rw [tm_sta, pk_us, hx9]; rfl) (by rw [tm_sta, pk_un (by decide), tm_sta, pk_us]) (fun i hi => by rw [if_pos rfl]; omega)
    refine ⟨C1, N1, ?_, ek, f2, f3, nne, fun p hp => by rw [n132, r1 p hp], n127 7 (by decide), f4, hnF⟩
    rw [← f1]
    unfold f_X9_remember
    rw [p2, if_neg n8]
    have e : f_X9_pastPlace C 1 = some (nI ((q + 1) % 8)) := by
      unfold f_X9_pastPlace
      rw [p3, nI_1, tm_fm8 _ (by omega), Option.bind_some]
    rw [e, Option.bind_some, Option.bind_some, Option.bind_some]
  · have hx9 : x = u + 1 := by rw [hx, if_neg h8]
    obtain ⟨C1, f1, f2, f3, f4⟩ := key C q hq (fun a ha => rfl) rfl (by rw [p2, hx9]; rfl) p3 (fun i hi => by rw [if_neg h8]; exact ⟨rfl, by omega⟩)
    refine ⟨C1, N1, ?_, ek, f2, f3, nne, fun p hp => by rw [n132, r1 p hp], n127 7 (by decide), f4, hnF⟩
    rw [← f1]
    unfold f_X9_remember
    rw [p2, if_pos (show nI u < 8 from nI_lt (b := 8) (by omega) (by decide))]
