/-! DAYS, kisses, visits, changes; undone, kept, back -/
theorem Rel_now {C C' N N' : tm_M} {n : Nat} (hR : Rel C N n) (hC : ∀ a, (a < 20 ∨ 29 ≤ a) → C' a = C a) (hN : ∀ a, a ≠ 132 → N' a = N a) (hr : ∀ p, 56 ≤ p → N' 132 p = N 132 p) (hy : yR C' N' 20 0 n) : Rel C' N' n := by
  obtain ⟨hn, h7, hto, -, hp, hk, hs, ht, hw⟩ := hR
  have e0 := hC 0 (by decide)
  have e127 := hN 127 (by decide)
  exact ⟨hn, by rw [e127]; exact h7, fr_told hn (fun a h1 h2 => hC a (by omega)) (fun a h1 h2 => hN a (by omega)) hto, hy,
    fr_past hn (by rw [e0]) (by rw [e0]) (fun a h1 h2 => hC a (by omega)) (by rw [e127]) (fun a h1 h2 => hN a (by omega)) (fun p h1 h2 => hr p h1) hp,
    fr_kept hn (fun a h1 h2 => hC a (by omega)) (fun a h1 h2 => hN a (by omega)) (fun p h1 h2 => hr p (by omega)) hk,
    fr_seen (by rw [e0]) (fun a h1 h2 => hC a (by omega)) (by rw [e127]) (hN 139 (by decide)) hs,
    fr_text (by rw [hC 2 (by decide)]) (hC 3 (by decide)) (by rw [e127]) (hN 138 (by decide)) ht,
    fr_tab (fun a h1 h2 => hN a (by omega)) hw⟩
theorem Rel.d {C N : tm_M} {n : Nat} (hR : Rel C N n) : n ≤ 6 ∧ N 127 7 = nI n ∧ ∃ d, d ≤ 999 ∧ C 20 2 = nI n ∧ C 20 3 = nI d ∧ tOK (C 21) ∧ mD N (N 132) 0 n d (C 21) (fun c => C (23 + c)) := by
  obtain ⟨hn, h7, -, hy, -⟩ := hR
  exact ⟨hn, h7, hy⟩
theorem fl_eq {n f g : Nat} {P : Nat → Prop} [∀ i, Decidable (P i)] (hf : f < 2 ^ n) (hg : g < 2 ^ n) (h1 : ∀ i, i < n → f.testBit i = decide (P i)) (h2 : ∀ i, i < n → g.testBit i = decide (P i)) : f = g := by
  apply Nat.eq_of_testBit_eq
  intro i
  by_cases hi : i < n
  · rw [h1 i hi, h2 i hi]
  · rw [Nat.testBit_lt_two_pow (Nat.lt_of_lt_of_le hf (Nat.pow_le_pow_right (by decide) (by omega))), Nat.testBit_lt_two_pow (Nat.lt_of_lt_of_le hg (Nat.pow_le_pow_right (by decide) (by omega)))]
theorem o_day : oOK (fun C => f_X9_day C) (fun N => f_X10_day N) := by
  intro C N n hR
  obtain ⟨hn, h7, d, hd, q2, q3, q4, q5⟩ := hR.d
  have r0 : N 132 0 = nI d := q5.1
  by_cases z : d = 999
  · subst z
    refine oo_same hR (-5) ?_ ?_
    · simp only [f_X9_day, q3]
      rw [if_neg (by decide)]
    · simp only [f_X10_day]
      rw [show tm_rd N 132 672 0 = some (N 132 0) from tm_rdN (k := 0) (by decide) (by decide), r0, Option.bind_some, if_pos (by decide)]
  · obtain ⟨C1, N1, e1, e2, hR1, c1, n1, n2, n3, f1, f2⟩ := o_rem hR
    obtain ⟨-, h71, d1, hd1, q21, q31, q41, q51⟩ := hR1.d
    have ed : d1 = d := by
      rw [c1 20 (by decide) (by decide), q3] at q31
      exact ((nI_eq (by omega) (by omega)).mp q31).symm
    subst ed
    obtain ⟨C2, f, g1, g2, g3, g4, g5, g6, g7, g8⟩ := c_passY (M := C1) yS_20 hn (show d1 < 1100 by omega) q21 q31 (fun i hi => (q51.2.2.2 i hi).2.1.k)
    obtain ⟨r', f', k1, k2, k3, k4, k5⟩ := m_pass (M := N1) (r := N1 132) (b := 0) (by decide) hn h71 (show d1 < 1100 by omega) q41 q51
    rw [tm_sr_self] at k1
    have ef : f = f' := fl_eq g3 k3 g4 k4
    subst ef
    refine ⟨nI f, C2, tm_sr N1 132 r', n, ?_, ?_, Rel_now hR1 (fun a ha => g8 a (by omega)) (fun a ha => tm_sr_ne _ _ ha) (fun p hp => by rw [tm_sr_at, k5 p (by omega)]) ⟨d1 + 1, by omega, g5, g6, by rw [g7]; exact q41, ?_⟩, ?_, ?_⟩
    · simp only [f_X9_day, q3]
      rw [if_pos (show nI d1 < 999 from nI_lt (b := 999) (by omega) (by decide)), e1, Option.bind_some, g1, Option.bind_some]
    · simp only [f_X10_day]
      rw [show tm_rd N 132 672 0 = some (N 132 0) from tm_rdN (k := 0) (by decide) (by decide), r0, Option.bind_some, if_neg (show ¬ nI d1 = 999 from fun e => z ((nI_eq (b := 999) (by omega) (by decide)).mp e)), e2, Option.bind_some, show (0 : Int32) = nI 0 from rfl, k1, Option.bind_some]
    · rw [tm_sr_at, g7]
      exact mD_mv hn (fun c _ => by rw [tm_sr_ne _ _ (by decide)]) (fun c _ => by rw [tm_sr_ne _ _ (by decide)]) (fun j _ => rfl) (fun k _ => rfl) (fun c hc => by rw [show (23 : Nat) + c = 20 + 3 + c from rfl]; show lEq (C2 (20 + 3 + c)) _; rw [g2 c hc]; exact lEq.rf _) k2
    · intro a ha
      rw [g8 a (by omega), f1 a ha]
    · intro a ha
      rw [tm_sr_ne _ _ (by omega), f2 a ha]
/-- one couple of now changes -/
theorem yR_one {C N : tm_M} {n c d : Nat} {v r : LV} (hn : n ≤ 6) (hc : c < n) (hd : d ≤ 999) (q2 : C 20 2 = nI n) (q3 : C 20 3 = nI d) (q4 : tOK (C 21)) (q5 : mD N (N 132) 0 n d (C 21) (fun c => C (23 + c))) (hv : vR N r 0 c (nI d - 1) v) (hok : vOK d v) (htf : tfOK r 0 c d)
    (hr0 : r 0 = nI d) (hrT : ∀ k, k < 6 → r (1 + k) = N 132 (1 + k)) (hrw : ∃ w, w < 2 ^ n ∧ r 19 = nI w) (ho : ∀ i, i < n → i ≠ c → vR N r 0 i (nI d - 1) (C (23 + i)) ∧ tfOK r 0 i d) : yR (tm_sr C (23 + c) v) (tm_sr N 132 r) 20 0 n := by
  obtain ⟨h1, h2, h3, h4⟩ := q5
  have e21 : tm_sr C (23 + c) v 21 = C 21 := tm_sr_ne _ _ (by omega)
  refine ⟨d, hd, ?_, ?_, ?_, ?_⟩
  · rw [tm_sr_ne _ _ (by omega)]; exact q2
  · rw [tm_sr_ne _ _ (by omega)]; exact q3
  · show tOK (tm_sr C (23 + c) v 21)
    rw [e21]; exact q4
  · show mD _ _ 0 n d (tm_sr C (23 + c) v 21) _
    rw [e21, tm_sr_at]
    refine ⟨hr0, fun k hk => ?_, ?_, fun i hi => ?_⟩
    · rw [Nat.zero_add, hrT k hk, ← h2 k hk, Nat.zero_add]
    · exact hrw
    · have fin : ∀ u : LV, vR N r 0 i (nI d - 1) u → vR (tm_sr N 132 r) r 0 i (nI d - 1) u := fun u h => vR_c (by rw [tm_sr_ne _ _ (by decide)]) (by rw [tm_sr_ne _ _ (by decide)]) (fun j _ => rfl) (by omega) (lEq.rf _) h
      by_cases e : i = c
      · subst e
        show vR _ _ _ _ _ (tm_sr C (23 + i) v (23 + i)) ∧ vOK d (tm_sr C (23 + i) v (23 + i)) ∧ _
        rw [tm_sr_at]
        exact ⟨fin _ hv, hok, htf⟩
      · show vR _ _ _ _ _ (tm_sr C (23 + c) v (23 + i)) ∧ vOK d (tm_sr C (23 + c) v (23 + i)) ∧ _
        rw [tm_sr_ne _ _ (by omega)]
        exact ⟨fin _ (ho i hi e).1, (h4 i hi).2.1, (ho i hi e).2⟩
/-- the row of a couple that is visited; of one that is kissed -/
theorem vR_ne {M : tm_M} {r r' u : LV} {b c : Nat} {td : Int32} (h : ∀ j, j = 7 ∨ j = 13 ∨ j = 20 ∨ j = 26 ∨ j = 32 ∨ j = 38 ∨ j = 44 ∨ j = 50 → r' (b + j + c) = r (b + j + c)) (h19 : (r' (b + 19) >>> (nI c &&& 31)) &&& 1 = (r (b + 19) >>> (nI c &&& 31)) &&& 1) (hv : vR M r b c td u) : vR M r' b c td u := by
  obtain ⟨hk, h1, h2, h3, h4, h5, h6, h8, h9, h10, h11⟩ := hv
  exact ⟨hk, h1, by rw [h 7 (by decide)]; exact h2, by rw [h 13 (by decide)]; exact h3, by rw [h19]; exact h4, by rw [h 20 (by decide)]; exact h5, by rw [h 26 (by decide)]; exact h6, by rw [h 32 (by decide)]; exact h8, by rw [h 38 (by decide)]; exact h9, by rw [h 44 (by decide)]; exact h10, by rw [h 50 (by decide)]; exact h11⟩
theorem r_visit {M : tm_M} {r v : LV} {b c : Nat} {td x : Int32} (hc : c < 6) (h : vR M r b c td v) : vR M (upd r (b + 7 + c) (if r (b + 7 + c) + x < 99 then r (b + 7 + c) + x else 99)) b c td (sMore v x) := by
  obtain ⟨hk, h1, h2, h3, h4, h5, h6, h8, h9, h10, h11⟩ := h
  refine ⟨hk, h1, ?_, ?_, ?_, ?_, ?_, ?_, ?_, ?_, ?_⟩
  · rw [pk_us, h2]; rfl
  · rw [pk_un (by omega)]; exact h3
  · rw [pk_un (by omega)]; exact h4
  · rw [pk_un (by omega)]; exact h5
  · rw [pk_un (by omega)]; exact h6
  · rw [pk_un (by omega)]; exact h8
  · rw [pk_un (by omega)]; exact h9
  · rw [pk_un (by omega)]; exact h10
  · rw [pk_un (by omega)]; exact h11
theorem bit_off : ∀ w, w < 64 → ∀ c, c < 6 → (nI w &&& ((1 <<< (nI c &&& 31)) ^^^ (-1))) = nI (w - (if w.testBit c then 2 ^ c else 0)) ∧ (w - (if w.testBit c then 2 ^ c else 0)) < 64 ∧ (w - (if w.testBit c then 2 ^ c else 0)).testBit c = false ∧ ∀ i, i < 6 → i ≠ c → (w - (if w.testBit c then 2 ^ c else 0)).testBit i = w.testBit i := by decide +kernel
def rKiss (r : LV) (b c : Nat) : LV := upd (upd (upd r (b + 7 + c) (r (b + 7 + c) / 2)) (b + 13 + c) 0) (b + 19) (r (b + 19) &&& ((1 <<< (nI c &&& 31)) ^^^ (-1)))
theorem m_kiss {M : tm_M} {r : LV} {b c : Nat} (hb : b ≤ 616) (hc : c < 6) : f_X10_doKiss (tm_sr M 132 r) (nI b) (nI c) = some (tm_sr M 132 (rKiss r b c)) := by
  unfold f_X10_doKiss
  rw [m_rd (J := 7) (j := 7) rfl (by omega), Option.bind_some, m_wr (J := 7) (j := 7) rfl (by omega), Option.bind_some, m_wr (J := 13) (j := 13) rfl (by omega), Option.bind_some, m_rd0 (J := 19) (j := 19) rfl (by omega), Option.bind_some, m_wr0 (J := 19) (j := 19) rfl (by omega), Option.bind_some]
  unfold rKiss
  rw [pk_un (show b + 19 ≠ b + 13 + c by omega), pk_un (show b + 19 ≠ b + 7 + c by omega)]
theorem rKiss_19 {r : LV} {b c n w : Nat} (hn : n ≤ 6) (hc : c < 6) (hw : w < 2 ^ n) (hr : r (b + 19) = nI w) : ∃ w2, w2 < 2 ^ n ∧ rKiss r b c (b + 19) = nI w2 ∧ (nI w2 >>> (nI c &&& 31)) &&& 1 = 0 ∧ ∀ i, i < 6 → i ≠ c → (nI w2 >>> (nI i &&& 31)) &&& 1 = (nI w >>> (nI i &&& 31)) &&& 1 := by
  have hw6 := p64 hn hw
  obtain ⟨e1, e2, e3, e4⟩ := bit_off w hw6 c hc
  have hle : w - (if w.testBit c = true then 2 ^ c else 0) ≤ w := Nat.sub_le _ _
  generalize w - (if w.testBit c = true then 2 ^ c else 0) = w2 at e1 e2 e3 e4 hle
  refine ⟨w2, Nat.lt_of_le_of_lt hle hw, ?_, ?_, fun i hi hne => ?_⟩
  · unfold rKiss
    rw [pk_us, hr]
    exact e1
  · rw [bit_at _ e2 c hc, e3]; rfl
  · rw [bit_at _ e2 i hi, bit_at _ hw6 i hi, e4 i hi hne]
theorem rKiss_ne {r : LV} {b c p : Nat} (h7 : p ≠ b + 7 + c) (h13 : p ≠ b + 13 + c) (h19 : p ≠ b + 19) : rKiss r b c p = r p := by
  unfold rKiss
  rw [pk_un h19, pk_un h13, pk_un h7]
theorem r_kiss {M : tm_M} {r v : LV} {b c w : Nat} {td : Int32} (hc : c < 6) (hw : w < 64) (hr : r (b + 19) = nI w) (h : vR M r b c td v) : vR M (rKiss r b c) b c td (sKiss v) := by
  obtain ⟨w2, -, e2, e3, -⟩ := rKiss_19 (n := 6) (by decide) hc hw hr
  obtain ⟨hk, h1, h2, h3, h4, h5, h6, h8, h9, h10, h11⟩ := h
  refine ⟨hk, h1, ?_, ?_, ?_, ?_, ?_, ?_, ?_, ?_, ?_⟩
  · unfold rKiss
    rw [pk_un (by omega), pk_un (by omega), pk_us, h2]; rfl
  · unfold rKiss
    rw [pk_un (by omega), pk_us]; rfl
  · rw [e2]; exact e3
  · rw [rKiss_ne (by omega) (by omega) (by omega)]; exact h5
  · rw [rKiss_ne (by omega) (by omega) (by omega)]; exact h6
  · rw [rKiss_ne (by omega) (by omega) (by omega)]; exact h8
  · rw [rKiss_ne (by omega) (by omega) (by omega)]; exact h9
  · rw [rKiss_ne (by omega) (by omega) (by omega)]; exact h10
  · rw [rKiss_ne (by omega) (by omega) (by omega)]; exact h11
theorem rd_22 {c : Nat} (hc : c < 6) : tm_rdr 22 6 (nI c) = some (23 + c) := rd_l yS_20 hc
theorem o_mother (x : Int32) : oOK (fun C => f_X9_mother C x) (fun N => f_X10_mother N x) := by
  intro C N n hR
  rcases unk x hR with ⟨c, hc, rfl, u1, u2⟩ | ⟨u1, u2⟩
  · obtain ⟨C1, N1, e1, e2, hR1, c1, n1, n2, n3, f1, f2⟩ := o_rem hR
    obtain ⟨hn, h7, d, hd, q2, q3, q4, q5⟩ := hR1.d
    obtain ⟨g1, g2, ⟨w, hw, g3⟩, g4⟩ := q5
    have hc6 : c < 6 := by omega
    have ho : tm_shp (23 + c) = 0 := yS_20.2.2.2 c hc6
    refine ⟨sMore (C1 (23 + c)) 10 2, tm_sr C1 (23 + c) (sMore (C1 (23 + c)) 10), tm_sr N1 132 (upd (N1 132) (0 + 7 + c) (if N1 132 (0 + 7 + c) + 10 < 99 then N1 132 (0 + 7 + c) + 10 else 99)), n, ?_, ?_, Rel_now hR1 (fun a ha => tm_sr_ne _ _ (by omega)) (fun a ha => tm_sr_ne _ _ ha) (fun p hp => by rw [tm_sr_at, pk_un (by omega)]) (yR_one hn hc hd q2 q3 q4 ⟨g1, g2, ⟨w, hw, g3⟩, g4⟩ (r_visit hc6 (g4 c hc).1) (v_visit (g4 c hc).2.1) ?_ ?_ (fun k hk => pk_un (by omega)) ⟨w, hw, ?_⟩ (fun i hi hne => ⟨vR_ne (fun j hj => pk_un (by omega)) (by rw [pk_un (by omega)]) (g4 i hi).1, ?_⟩)), ?_, ?_⟩
    · simp only [f_X9_mother, u1, Option.bind_some, if_true, e1]
      rw [rd_22 hc6, Option.bind_some, tm_gd_t ho, s_visit ho, Option.bind_some, tm_sr_at]
    · simp only [f_X10_mother, u2, Option.bind_some, e2]
      have em := m_more (M := N1) (r := N1 132) (b := 0) (c := c) (x := 10) (by decide) hc6
      rw [tm_sr_self] at em
      rw [if_neg (by decide), show (0 : Int32) = nI 0 from rfl, em, Option.bind_some, show (7 : Int32) + nI c = nI (7 + c) from nI_add 7 c, tm_rdN (by omega) (by decide), Option.bind_some, tm_sr_at, show 0 + 7 + c = 7 + c by omega, pk_us]
      have h2 := (g4 c hc).1.2.2.1
      rw [show 0 + 7 + c = 7 + c by omega] at h2
      rw [h2]
      rfl
    · unfold tfOK
      rw [pk_un (by omega)]
      exact (g4 c hc).2.2
    · rw [pk_un (by omega)]; exact g1
    · rw [pk_un (by omega)]; exact g3
    · unfold tfOK
      rw [pk_un (by omega)]
      exact (g4 i hi).2.2
    · intro a ha
      rw [tm_sr_ne _ _ (by omega), f1 a ha]
    · intro a ha
      rw [tm_sr_ne _ _ (by omega), f2 a ha]
  · refine oo_same hR (-2) ?_ ?_
    · simp only [f_X9_mother, u1, Option.bind_some]
      rw [if_neg (by decide)]
    · simp only [f_X10_mother, u2, Option.bind_some, if_true]
theorem o_kiss (x : Int32) : oOK (fun C => f_X9_kiss C x) (fun N => f_X10_kiss N x) := by
  intro C N n hR
  rcases unk x hR with ⟨c, hc, rfl, u1, u2⟩ | ⟨u1, u2⟩
  · obtain ⟨C1, N1, e1, e2, hR1, c1, n1, n2, n3, f1, f2⟩ := o_rem hR
    obtain ⟨hn, h7, d, hd, q2, q3, q4, q5⟩ := hR1.d
    obtain ⟨g1, g2, ⟨w, hw, g3⟩, g4⟩ := q5
    have hc6 : c < 6 := by omega
    have ho : tm_shp (23 + c) = 0 := yS_20.2.2.2 c hc6
    obtain ⟨w2, k1, k2, k3, k4⟩ := rKiss_19 hn hc6 hw g3
    refine ⟨sKiss (C1 (23 + c)) 2, tm_sr C1 (23 + c) (sKiss (C1 (23 + c))), tm_sr N1 132 (rKiss (N1 132) 0 c), n, ?_, ?_, Rel_now hR1 (fun a ha => tm_sr_ne _ _ (by omega)) (fun a ha => tm_sr_ne _ _ ha) (fun p hp => by rw [tm_sr_at, rKiss_ne (by omega) (by omega) (by omega)]) (yR_one hn hc hd q2 q3 q4 ⟨g1, g2, ⟨w, hw, g3⟩, g4⟩ (r_kiss hc6 (p64 hn hw) g3 (g4 c hc).1) (v_kiss (g4 c hc).2.1) ?_ ?_ (fun k hk => rKiss_ne (by omega) (by omega) (by omega)) ⟨w2, k1, k2⟩ (fun i hi hne => ⟨vR_ne (fun j hj => rKiss_ne (by omega) (by omega) (by omega)) (by rw [k2, g3, k4 i (by omega) hne]) (g4 i hi).1, ?_⟩)), ?_, ?_⟩
    · simp only [f_X9_kiss, u1, Option.bind_some, if_true, e1]
      rw [rd_22 hc6, Option.bind_some, tm_gd_t ho, s_kiss ho, Option.bind_some, tm_sr_at]
    · simp only [f_X10_kiss, u2, Option.bind_some, e2]
      have em := m_kiss (M := N1) (r := N1 132) (b := 0) (c := c) (by decide) hc6
      rw [tm_sr_self] at em
      rw [if_neg (by decide), show (0 : Int32) = nI 0 from rfl, em, Option.bind_some, show (7 : Int32) + nI c = nI (7 + c) from nI_add 7 c, tm_rdN (by omega) (by decide), Option.bind_some, tm_sr_at]
      have h2 := (r_kiss hc6 (p64 hn hw) g3 (g4 c hc).1).2.2.1
      rw [show 0 + 7 + c = 7 + c by omega] at h2
      rw [h2]
    · unfold tfOK
      rw [rKiss_ne (by omega) (by omega) (by omega)]
      exact (g4 c hc).2.2
    · rw [rKiss_ne (by omega) (by omega) (by omega)]; exact g1
    · unfold tfOK
      rw [rKiss_ne (by omega) (by omega) (by omega)]
      exact (g4 i hi).2.2
    · intro a ha
      rw [tm_sr_ne _ _ (by omega), f1 a ha]
    · intro a ha
      rw [tm_sr_ne _ _ (by omega), f2 a ha]
  · refine oo_same hR (-2) ?_ ?_
    · simp only [f_X9_kiss, u1, Option.bind_some]
      rw [if_neg (by decide)]
    · simp only [f_X10_kiss, u2, Option.bind_some, if_true]
