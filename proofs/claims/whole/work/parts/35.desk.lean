/-! A WHOLE DESK of the reference: n couples at place b of the row, on day d, with the terms T; V: the couples -/
def mD (M : tm_M) (r : LV) (b n d : Nat) (T : LV) (V : Nat → LV) : Prop :=
  r b = nI d ∧ (∀ k, k < 6 → r (b + 1 + k) = T k) ∧ (∃ w, w < 2 ^ n ∧ r (b + 19) = nI w) ∧ ∀ c, c < n → vR M r b c (nI d - 1) (V c) ∧ vOK d (V c) ∧ tfOK r b c d
def mI (M : tm_M) (r : LV) (b n d : Nat) (T : LV) (V : Nat → LV) (c : Nat) : Prop :=
  r b = nI d ∧ (∀ k, k < 6 → r (b + 1 + k) = T k) ∧ (∃ w, w < 2 ^ n ∧ r (b + 19) = nI w) ∧ (∀ i, i < n → i < c → vR M r b i (nI d) (sPass T d (V i)) ∧ tfOK r b i (d + 1)) ∧ ∀ i, i < n → c ≤ i → vR M r b i (nI d - 1) (V i) ∧ tfOK r b i d
theorem s_flag (T : LV) (d : Nat) (v : LV) : sFlag T d v = 0 ∨ sFlag T d v = 1 := by
  unfold sFlag
  split
  · exact Or.inl rfl
  · exact Or.inr rfl
theorem p64 {n : Nat} (hn : n ≤ 6) {w : Nat} (h : w < 2 ^ n) : w < 64 := Nat.lt_of_lt_of_le h (Nat.pow_le_pow_right (by decide) hn)
theorem m_loop {k : Int32 → Int32 → tm_M → Option (Int32 × tm_M)} {M : tm_M} {b nn d : Nat} {T : LV} {V : Nat → LV} (hb : b ≤ 616) (hnn : nn ≤ 6) (hM : M 127 7 = nI nn) (hd : d < 1100) (hV : ∀ c, c < nn → vOK d (V c)) :
    ∀ (j n c f : Nat) (r : LV), c + j = nn → j < n → mI M r b nn d T V c → f < 2 ^ c → (∀ i, i < c → f.testBit i = decide (sFlag T d (V i) = 1)) →
      ∃ (r' : LV) (f' : Nat), f_X10_pass_L4 k (nI b) n (nI f) (nI c) (tm_sr M 132 r) = k (nI f') (nI nn) (tm_sr M 132 r') ∧ mI M r' b nn d T V nn ∧ f' < 2 ^ nn ∧ (∀ i, i < nn → f'.testBit i = decide (sFlag T d (V i) = 1)) ∧ ∀ p, (p < b + 7 ∨ b + 56 ≤ p) → r' p = r p := by
  intro j
  induction j with
  | zero =>
    intro n c f r hcj hn hI hf hbit
    obtain ⟨n, rfl⟩ : ∃ m, n = m + 1 := ⟨n - 1, by omega⟩
    have hc : c = nn := by omega
    subst hc
    refine ⟨r, f, ?_, hI, hf, hbit, fun _ _ => rfl⟩
    rw [f_X10_pass_L4, tm_sr_ne _ _ (show (127 : Nat) ≠ 132 by decide), hM, if_pos (nI_le (Nat.le_refl _) (by omega))]
  | succ j ih =>
    intro n c f r hcj hn hI hf hbit
    obtain ⟨n, rfl⟩ : ∃ m, n = m + 1 := ⟨n - 1, by omega⟩
    have hcn : c < nn := by omega
    have hc6 : c < 6 := by omega
    obtain ⟨hrd, hT, ⟨w, hw, hr19⟩, hpost, hpre⟩ := hI
    obtain ⟨hv, htf⟩ := hpre c hcn (Nat.le_refl _)
    have hok := hV c hcn
    rw [m_step hb hcn hnn hM hd hrd hv hok.2.1 hT]
    obtain ⟨w2, hw2, e2, h19⟩ := rPass_w (T := T) (v := V c) (d := d) hc6 (p64 hnn hw) hr19
    have hI2 : mI M (rPass T (V c) r b c d) b nn d T V (c + 1) := by
      refine ⟨?_, fun k hk => ?_, ⟨w2, ?_, e2⟩, fun i hi hic => ?_, fun i hi hic => ?_⟩
      · rw [rPass_ne (by omega) (by omega) (by omega) (by omega) (by omega) (by omega) (by omega) (by omega) (by omega)]; exact hrd
      · rw [rPass_ne (by omega) (by omega) (by omega) (by omega) (by omega) (by omega) (by omega) (by omega) (by omega)]; exact hT k hk
      · rcases h19 with h | h
        · rw [h]; exact hw
        · rw [h]; exact Nat.or_lt_two_pow hw (Nat.pow_lt_pow_right (by decide) hcn)
      · by_cases e : i = c
        · subst e
          exact ⟨rPass_self hc6 hd (p64 hnn hw) hr19 htf hok hv, tf_self hc6 htf⟩
        · obtain ⟨q1, q2⟩ := hpost i hi (by omega)
          exact ⟨rPass_other hc6 (by omega) e (p64 hnn hw) hr19 q1, tf_other hc6 (by omega) e q2⟩
      · obtain ⟨q1, q2⟩ := hpre i hi (by omega)
        exact ⟨rPass_other hc6 (by omega) (by omega) (p64 hnn hw) hr19 q1, tf_other hc6 (by omega) (by omega) q2⟩
    have hff : ∃ f2, (if sFlag T d (V c) = 0 then nI f else nI f ||| (1 <<< (nI c &&& 31))) = nI f2 ∧ f2 < 2 ^ (c + 1) ∧ ∀ i, i < c + 1 → f2.testBit i = decide (sFlag T d (V i) = 1) := by
      have hf1 : f < 2 ^ (c + 1) := Nat.lt_of_lt_of_le hf (Nat.pow_le_pow_right (by decide) (by omega))
      rcases s_flag T d (V c) with z | z
      · refine ⟨f, by rw [if_pos z], hf1, fun i hi => ?_⟩
        by_cases e : i = c
        · subst e
          rw [Nat.testBit_lt_two_pow hf, z]
          rfl
        · exact hbit i (by omega)
      · refine ⟨f ||| 2 ^ c, ?_, Nat.or_lt_two_pow hf1 (Nat.pow_lt_pow_right (by decide) (by omega)), fun i hi => ?_⟩
        · rw [if_neg (by rw [z]; decide)]
          exact bit_or f (p64 (n := c) (by omega) hf) c hc6
        · by_cases e : i = c
          · subst e
            rw [Nat.testBit_or, Nat.testBit_two_pow_self, Bool.or_true, z]
            rfl
          · rw [Nat.testBit_or, Nat.testBit_two_pow, decide_eq_false (fun q => e q.symm), Bool.or_false]
            exact hbit i (by omega)
    obtain ⟨f2, ef, hf2, hbit2⟩ := hff
    rw [ef]
    obtain ⟨r', f', g1, g2, g3, g4, g5⟩ := ih n (c + 1) f2 _ (by omega) (by omega) hI2 hf2 hbit2
    refine ⟨r', f', g1, g2, g3, g4, fun p hp => ?_⟩
    rw [g5 p hp]
    exact rPass_ne (by omega) (by omega) (by omega) (by omega) (by omega) (by omega) (by omega) (by omega) (by omega)
theorem m_pass {M : tm_M} {r : LV} {b n d : Nat} {T : LV} {V : Nat → LV} (hb : b ≤ 616) (hn : n ≤ 6) (hM : M 127 7 = nI n) (hd : d < 1100) (hT : tOK T) (h : mD M r b n d T V) :
    ∃ (r' : LV) (f : Nat), f_X10_pass (tm_sr M 132 r) (nI b) = some (nI f, tm_sr M 132 r') ∧ mD M r' b n (d + 1) T (fun c => sPass T d (V c)) ∧ f < 2 ^ n ∧ (∀ i, i < n → f.testBit i = decide (sFlag T d (V i) = 1)) ∧ ∀ p, (p < b ∨ b + 56 ≤ p) → r' p = r p := by
  obtain ⟨hrd, hTT, hw, hV⟩ := h
  have hI : mI M r b n d T V 0 := ⟨hrd, hTT, hw, fun i _ h => absurd h (Nat.not_lt_zero _), fun i hi _ => ⟨(hV i hi).1, (hV i hi).2.2⟩⟩
  obtain ⟨r', f, g1, ⟨q1, q2, ⟨w, q3, q4⟩, q5, -⟩, g3, g4, g5⟩ := m_loop (k := fun v24 v25 M26 => (tm_rd M26 132 672 (nI b + 0)).bind fun x27 => (tm_wr M26 132 672 (nI b + 0) (x27 + 1)).bind fun M29 => some (v24, M29)) hb hn hM hd (fun c hc => (hV c hc).2.1) n 1000 0 0 r (by omega) (by omega) hI (by decide) (fun i h => absurd h (Nat.not_lt_zero _))
  refine ⟨upd r' b (nI (d + 1)), f, ?_, ⟨pk_us, fun k hk => ?_, ⟨w, q3, ?_⟩, fun c hc => ?_⟩, g3, g4, fun p hp => ?_⟩
  · unfold f_X10_pass
    rw [show (0 : Int32) = nI 0 from rfl] at g1 ⊢
    refine g1.trans ?_
    rw [show nI b + nI 0 = nI b + 0 from rfl, m_rd00 (by omega), Option.bind_some, q1, nI_1, m_wr00 (by omega), Option.bind_some]
  · rw [pk_un (by omega)]; exact q2 k hk
  · rw [pk_un (by omega)]; exact q4
  · obtain ⟨⟨hk, h1, h2, h3, h4, h5, h6, h8, h9, h10, h11⟩, htf⟩ := q5 c hc hc
    refine ⟨?_, v_pass hd hT (hV c hc).2.1, ?_⟩
    · rw [nI_pred]
      refine ⟨hk, h1, ?_, ?_, ?_, ?_, ?_, ?_, ?_, ?_, ?_⟩ <;> rw [pk_un (by omega)] <;> assumption
    · unfold tfOK
      rw [pk_un (by omega)]
      exact htf
  · rw [pk_un (by omega)]
    exact g5 p (by omega)
/-! copies of a desk -/
theorem m_copy {M : tm_M} {a b : Nat} (ha : a + 56 ≤ 672) (hb : b + 56 ≤ 672) (hab : a + 56 ≤ b ∨ b + 56 ≤ a) {k : Int32 → tm_M → Option tm_M} {r : LV} : ∀ (j n i : Nat), i + j = 56 → j < n → f_X10_copyDesk_L2 k (nI a) (nI b) n (nI i) (tm_sr M 132 (va_cpy r r a b i)) = k (nI 56) (tm_sr M 132 (va_cpy r r a b 56)) := by
  intro j
  induction j with
  | zero =>
    intro n i hi hn
    obtain ⟨n, rfl⟩ : ∃ m, n = m + 1 := ⟨n - 1, by omega⟩
    have : i = 56 := by omega
    subst this
    rw [f_X10_copyDesk_L2, if_pos (show (56 : Int32) ≤ nI 56 by decide)]
  | succ j ih =>
    intro n i hi hn
    obtain ⟨n, rfl⟩ : ∃ m, n = m + 1 := ⟨n - 1, by omega⟩
    rw [f_X10_copyDesk_L2, if_neg (show ¬ (56 : Int32) ≤ nI i from nI_ge (b := 56) (by omega) (by decide)), nI_add, tm_rdN (by omega) (by decide), Option.bind_some, nI_add, tm_wrN (by omega) (by decide), Option.bind_some, nI_1, tm_st_sr, tm_sr_sr, tm_sr_at]
    have e : upd (va_cpy r r a b i) (b + i) (va_cpy r r a b i (a + i)) = va_cpy r r a b (i + 1) := by
      funext p
      by_cases hp : p = b + i
      · subst hp
        rw [pk_us, pk_cpy_out (by omega), pk_cpy_in (by omega) (by omega)]
        congr 1
        omega
      · rw [pk_un hp]
        by_cases hq : b ≤ p ∧ p < b + i
        · rw [pk_cpy_in hq.1 hq.2, pk_cpy_in hq.1 (by omega)]
        · rw [pk_cpy_out (by omega), pk_cpy_out (by omega)]
    rw [e]
    exact ih n (i + 1) (by omega) (by omega)
theorem m_copyDesk {M : tm_M} {a b : Nat} (ha : a + 56 ≤ 672) (hb : b + 56 ≤ 672) (hab : a + 56 ≤ b ∨ b + 56 ≤ a) {r : LV} : f_X10_copyDesk (tm_sr M 132 r) (nI a) (nI b) = some (tm_sr M 132 (va_cpy r r a b 56)) := by
  unfold f_X10_copyDesk
  have e : va_cpy r r a b 0 = r := by
    funext p
    exact pk_cpy_out (by omega)
  have := m_copy (M := M) ha hb hab (k := fun v6 M7 => some M7) (r := r) 56 1000 0 (by omega) (by omega)
  rw [e] at this
  exact this
theorem mD_copy {M : tm_M} {r : LV} {a b n d : Nat} {T : LV} {V : Nat → LV} (hn : n ≤ 6) (h : mD M r a n d T V) : mD M (va_cpy r r a b 56) b n d T V := by
  have e : ∀ j, j < 56 → va_cpy r r a b 56 (b + j) = r (a + j) := fun j hj => by
    rw [pk_cpy_in (by omega) (by omega)]
    congr 1
    omega
  have e2 : ∀ j c, j + c < 56 → va_cpy r r a b 56 (b + j + c) = r (a + j + c) := fun j c hj => by
    rw [Nat.add_assoc, e _ hj, Nat.add_assoc]
  have e0 : va_cpy r r a b 56 b = r a := e 0 (by decide)
  obtain ⟨h1, h2, ⟨w, hw, h3⟩, h4⟩ := h
  refine ⟨by rw [e0]; exact h1, fun k hk => by rw [e2 1 k (by omega)]; exact h2 k hk, ⟨w, hw, by rw [e 19 (by decide)]; exact h3⟩, fun c hc => ?_⟩
  obtain ⟨⟨hk, g1, g2, g3, g4, g5, g6, g8, g9, g10, g11⟩, hok, htf⟩ := h4 c hc
  refine ⟨⟨hk, g1, ?_, ?_, ?_, ?_, ?_, ?_, ?_, ?_, ?_⟩, hok, ?_⟩
  · rw [e2 7 c (by omega)]; exact g2
  · rw [e2 13 c (by omega)]; exact g3
  · rw [e 19 (by omega)]; exact g4
  · rw [e2 20 c (by omega)]; exact g5
  · rw [e2 26 c (by omega)]; exact g6
  · rw [e2 32 c (by omega)]; exact g8
  · rw [e2 38 c (by omega)]; exact g9
  · rw [e2 44 c (by omega)]; exact g10
  · rw [e2 50 c (by omega)]; exact g11
  · unfold tfOK
    rw [e2 50 c (by omega)]
    exact htf
