/-! DAYS THAT ARE TRIED: the class on one couple, the reference on a copy of the desk -/
def cD (C : tm_M) (n d : Nat) : Prop := n ≤ 6 ∧ d ≤ 999 ∧ C 20 2 = nI n ∧ C 20 3 = nI d ∧ tOK (C 21) ∧ ∀ c, c < n → vOK d (C (23 + c))
theorem cD_sr {C : tm_M} {n d a : Nat} {v : LV} (ha : 125 ≤ a) (h : cD C n d) : cD (tm_sr C a v) n d := by
  obtain ⟨h1, h2, h3, h4, h5, h6⟩ := h
  refine ⟨h1, h2, ?_, ?_, ?_, fun c hc => ?_⟩
  · rw [tm_sr_ne _ _ (by omega)]; exact h3
  · rw [tm_sr_ne _ _ (by omega)]; exact h4
  · rw [tm_sr_ne _ _ (by omega)]; exact h5
  · rw [tm_sr_ne _ _ (by omega)]; exact h6 c hc
theorem Rel.cD {C N : tm_M} {n : Nat} (hR : Rel C N n) : ∃ d, cD C n d ∧ N 127 7 = nI n ∧ mD N (N 132) 0 n d (C 21) (fun c => C (23 + c)) := by
  obtain ⟨hn, h7, d, hd, q2, q3, q4, q5⟩ := hR.d
  exact ⟨d, ⟨hn, hd, q2, q3, q4, fun c hc => (q5.2.2.2 c hc).2.1⟩, h7, q5⟩
theorem c_lay {C : tm_M} {n d c : Nat} (h : cD C n d) (hc : c < n) : ∃ v, f_X1_copy C 125 (23 + c) = some (tm_sr C 125 v) ∧ lEq v (C (23 + c)) := by
  obtain ⟨hn, hd, -, -, -, h6⟩ := h
  obtain ⟨k0, k4, k11⟩ := (h6 c hc).k
  exact ⟨_, c_copyL (by decide) (yS_20.2.2.2 c (by omega)) (by omega) k0 k4 k11, lCopy_eq _ _⟩
theorem c_day {C : tm_M} {n d i : Nat} {v : LV} (h : cD C n d) (hi : i ≤ 60) (hk : sKind (v 0)) : f_X1_pass (tm_sr C 125 v) 125 ((tm_sr C 125 v) 20 3 + nI i) 21 = some (sFlag (C 21) (d + i) v, tm_sr C 125 (sPass (C 21) (d + i) v)) := by
  obtain ⟨hn, hd, h2, h3, -, -⟩ := h
  rw [tm_sr_ne _ _ (show (20 : Nat) ≠ 125 by decide), h3, nI_add, s_pass (M := tm_sr C 125 v) (o := 125) (t := 21) (by decide) (by decide) (by omega) (by rw [tm_sr_at]; exact hk), tm_sr_at, tm_sr_ne _ _ (show (21 : Nat) ≠ 125 by decide), tm_sr_sr]
theorem c_days {C : tm_M} {n d m : Nat} {v : LV} {k : Int32 → tm_M → Option tm_M} (h : cD C n d) (hm : m ≤ 60) (hv : vOK d v) : ∀ (j f i : Nat), i + j = m → j < f → f_X9_passTried_L2 k (nI m) f (nI i) (tm_sr C 125 (itV (C 21) d v i)) = k (nI m) (tm_sr C 125 (itV (C 21) d v m)) := by
  intro j
  induction j with
  | zero =>
    intro f i hi hf
    obtain ⟨f, rfl⟩ : ∃ g, f = g + 1 := ⟨f - 1, by omega⟩
    have : i = m := by omega
    subst this
    rw [f_X9_passTried_L2, if_pos (nI_le (Nat.le_refl _) (by omega))]
  | succ j ih =>
    intro f i hi hf
    obtain ⟨f, rfl⟩ : ∃ g, f = g + 1 := ⟨f - 1, by omega⟩
    have hok := itV_ok h.2.2.2.2.1 hv i (by have := h.2.1; omega)
    rw [f_X9_passTried_L2, if_neg (nI_ge (by omega) (by omega)), c_day h (by omega) hok.1, Option.bind_some, nI_1]
    exact ih f (i + 1) (by omega) (by omega)
theorem c_try {C : tm_M} {n d c m : Nat} (h : cD C n d) (hc : c < n) (hm : m ≤ 60) : ∃ v, f_X9_tryDays C (nI c) (nI m) = some (tm_sr C 125 v) ∧ lEq v (itV (C 21) d (C (23 + c)) m) := by
  obtain ⟨v, e, hv⟩ := c_lay h hc
  have hvo : vOK d v := vOK_c hv.sy (h.2.2.2.2.2 c hc)
  refine ⟨itV (C 21) d v m, ?_, itV_c hv m⟩
  have := c_days (k := fun v4 M5 => some M5) h hm hvo m 1000 0 (by omega) (by omega)
  unfold f_X9_tryDays f_X9_passTried
  rw [rd_22 (by have := h.1; omega), Option.bind_some, e, Option.bind_some, show (0 : Int32) = nI 0 from rfl]
  refine Eq.trans (congrArg (fun z => Option.bind z _) this) ?_
  rw [Option.bind_some]
theorem m_days {N : tm_M} {n d m : Nat} {T : LV} {V : Nat → LV} {k : Int32 → tm_M → Option tm_M} (hn : n ≤ 6) (h7 : N 127 7 = nI n) (hd : d ≤ 999) (hm : m ≤ 60) (hT : tOK T) : ∀ (j f i : Nat) (r : LV), i + j = m → j < f → mD N r 616 n (d + i) T (fun c => itV T d (V c) i) → (∀ p, p < 616 → r p = N 132 p) →
    ∃ r' : LV, f_X10_layTried_L10 k (nI m) f (nI i) (tm_sr N 132 r) = k (nI m) (tm_sr N 132 r') ∧ mD N r' 616 n (d + m) T (fun c => itV T d (V c) m) ∧ ∀ p, p < 616 → r' p = N 132 p := by
  intro j
  induction j with
  | zero =>
    intro f i r hi hf hD hp
    obtain ⟨f, rfl⟩ : ∃ g, f = g + 1 := ⟨f - 1, by omega⟩
    have : i = m := by omega
    subst this
    exact ⟨r, by rw [f_X10_layTried_L10, if_pos (nI_le (Nat.le_refl _) (by omega))], hD, hp⟩
  | succ j ih =>
    intro f i r hi hf hD hp
    obtain ⟨f, rfl⟩ : ∃ g, f = g + 1 := ⟨f - 1, by omega⟩
    obtain ⟨r1, fl, g1, g2, g3, g4, g5⟩ := m_pass (M := N) (b := 616) (by decide) hn h7 (by omega) hT hD
    rw [f_X10_layTried_L10, if_neg (nI_ge (by omega) (by omega)), show (616 : Int32) = nI 616 from rfl, g1, Option.bind_some, nI_1]
    exact ih f (i + 1) r1 (by omega) (by omega) g2 (fun p h => by rw [g5 p (by omega)]; exact hp p h)
theorem m_lay {N : tm_M} {n d m : Nat} {T : LV} {V : Nat → LV} (hn : n ≤ 6) (h7 : N 127 7 = nI n) (hd : d ≤ 999) (hm : m ≤ 60) (hT : tOK T) (hD : mD N (N 132) 0 n d T V) : ∃ r' : LV, f_X10_layTried N (nI m) = some (tm_sr N 132 r') ∧ mD N r' 616 n (d + m) T (fun c => itV T d (V c) m) ∧ ∀ p, p < 616 → r' p = N 132 p := by
  obtain ⟨r', e1, e2, e3⟩ := m_days (V := V) (k := fun v7 M8 => some M8) hn h7 hd hm hT m 1000 0 (va_cpy (N 132) (N 132) 0 616 56) (by omega) (by omega) (mD_copy hn hD) (fun p hp => pk_cpy_out (by omega))
  refine ⟨r', ?_, e2, e3⟩
  unfold f_X10_layTried
  rw [show (0 : Int32) = nI 0 from rfl, show (616 : Int32) = nI 616 from rfl, m_cpy_self (by decide) (by decide) (by decide), Option.bind_some]
  exact e1
theorem sc_125 (C : tm_M) (v : LV) : scC C (tm_sr C 125 v) := ⟨fun a h _ _ _ _ => tm_sr_ne _ _ (by omega), by rw [tm_sr_ne _ _ (by decide)]⟩
theorem sc_132 (N : tm_M) {r : LV} (h : ∀ p, p < 616 → r p = N 132 p) : scN N (tm_sr N 132 r) :=
  ⟨fun a _ h2 _ _ _ => tm_sr_ne _ _ h2, by rw [tm_sr_ne _ _ (by decide)], by rw [tm_sr_ne _ _ (by decide)], by rw [tm_sr_ne _ _ (by decide)], by rw [tm_sr_ne _ _ (by decide)], fun p hp => by rw [tm_sr_at]; exact h p hp⟩
theorem cF_125 (C : tm_M) (v : LV) : cF C (tm_sr C 125 v) := fun a ha => tm_sr_ne _ _ (by omega)
theorem nF_132 (N : tm_M) (r : LV) : nF N (tm_sr N 132 r) := fun a ha => tm_sr_ne _ _ (by omega)
/-- both tried something: class in 125, reference in its row from 616 on -/
theorem oo_tri {C N : tm_M} {n : Nat} (hR : Rel C N n) {x y : Option (Int32 × tm_M)} (r : Int32) {v r' : LV} (h1 : x = some (r, tm_sr C 125 v)) (h2 : y = some (r, tm_sr N 132 r')) (h : ∀ p, p < 616 → r' p = N 132 p) : ∃ (r : Int32) (C1 N1 : tm_M) (n1 : Nat), x = some (r, C1) ∧ y = some (r, N1) ∧ Rel C1 N1 n1 ∧ cF C C1 ∧ nF N N1 :=
  ⟨r, _, _, n, h1, h2, Rel_sc (sc_125 C v) (sc_132 N h) hR, cF_125 C v, nF_132 N r'⟩
theorem o_strain (x y : Int32) : oOK (fun C => f_X9_strain C x y) (fun N => f_X10_strain N x y) := by
  intro C N n hR
  rcases unk x hR with ⟨c, hc, rfl, u1, u2⟩ | ⟨u1, u2⟩
  · rcases in_out y (a := 0) (n := 60) (A := 0) (N := 60) rfl rfl (by decide) (by decide) with ⟨m, -, hm, rfl, e1, e2⟩ | ⟨e1, e2⟩
    · obtain ⟨d, hD, h7, hM⟩ := hR.cD
      obtain ⟨v, g1, g2⟩ := c_try hD hc hm
      obtain ⟨r', k1, k2, k3⟩ := m_lay hD.1 h7 hD.2.1 hm hD.2.2.2.2.1 hM
      refine oo_tri hR (v 2) (v := v) ?_ ?_ k3
      · simp only [f_X9_strain, u1, Option.bind_some, if_true, e1]
        rw [g1, Option.bind_some, tm_sr_at]
      · simp only [f_X10_strain, u2, Option.bind_some, e2]
        have hn := hD.1
        rw [if_neg (by decide), if_neg (by decide), k1, Option.bind_some, show (623 : Int32) + nI c = nI (623 + c) from nI_add 623 c, tm_rdN (by omega) (by decide), Option.bind_some, tm_sr_at, g2 2 (by decide)]
        rw [show r' (623 + c) = itV (C 21) d (C (23 + c)) m 2 from (k2.2.2.2 c hc).1.2.2.1]
    · refine oo_same hR (-3) ?_ ?_
      · simp only [f_X9_strain, u1, Option.bind_some, if_true, e1]
        rw [if_neg (by decide)]
      · simp only [f_X10_strain, u2, Option.bind_some, e2, if_true]
        rw [if_neg (by decide)]
  · refine oo_same hR (-2) ?_ ?_
    · simp only [f_X9_strain, u1, Option.bind_some]
      rw [if_neg (by decide)]
    · simp only [f_X10_strain, u2, Option.bind_some, if_true]
theorem has_bit {f c : Nat} (hf : f < 64) (hc : c < 6) : f_X10_has (nI f) (nI c) = some (if f.testBit c = true then 1 else 0) := by
  rw [m_has, bit_at f hf c hc]
  split <;> rfl
theorem first_L {C N : tm_M} {n d c : Nat} {ky : Int32 → tm_M → Option (Int32 × tm_M)} (h : cD C n d) (h7 : N 127 7 = nI n) (hc : c < n) : ∀ (j f1 f2 i : Nat) (v r : LV), i + j = 60 → j < f1 → j < f2 → lEq v (itV (C 21) d (C (23 + c)) i) → mD N r 616 n (d + i) (C 21) (fun c => itV (C 21) d (C (23 + c)) i) → (∀ p, p < 616 → r p = N 132 p) →
    ∃ (x : Int32) (v' r' : LV), f_X9_first_L29 (fun v13 M14 => some ((-1), M14)) (nI c) f1 (nI i) (tm_sr C 125 v) = some (x, tm_sr C 125 v') ∧ f_X10_first_L18 (fun v13 M14 => some ((-1), M14)) (nI c) f2 (nI (i + 1)) (tm_sr N 132 r) = some (x, tm_sr N 132 r') ∧ ∀ p, p < 616 → r' p = N 132 p := by
  intro j
  induction j with
  | zero =>
    intro f1 f2 i v r hi hf1 hf2 hv hD hp
    obtain ⟨f1, rfl⟩ : ∃ g, f1 = g + 1 := ⟨f1 - 1, by omega⟩
    obtain ⟨f2, rfl⟩ : ∃ g, f2 = g + 1 := ⟨f2 - 1, by omega⟩
    have : i = 60 := by omega
    subst this
    refine ⟨-1, v, r, ?_, ?_, hp⟩
    · rw [f_X9_first_L29, if_pos (by decide)]
    · rw [f_X10_first_L18, if_pos (by decide)]
  | succ j ih =>
    intro f1 f2 i v r hi hf1 hf2 hv hD hp
    obtain ⟨f1, rfl⟩ : ∃ g, f1 = g + 1 := ⟨f1 - 1, by omega⟩
    obtain ⟨f2, rfl⟩ : ∃ g, f2 = g + 1 := ⟨f2 - 1, by omega⟩
    have hd := h.2.1
    have hn := h.1
    have hok := (hD.2.2.2 c hc).2.1
    obtain ⟨r1, fl, g1, g2, g3, g4, g5⟩ := m_pass (M := N) (b := 616) (by decide) h.1 h7 (by omega) h.2.2.2.2.1 hD
    have hk : sKind (v 0) := (vOK_c hv.sy hok).1
    have ef : sFlag (C 21) (d + i) v = sFlag (C 21) (d + i) (itV (C 21) d (C (23 + c)) i) := sFlag_c hv
    rw [f_X9_first_L29, if_neg (show ¬ (60 : Int32) ≤ nI i from nI_ge (b := 60) (by omega) (by decide)), c_day h (by omega) hk, Option.bind_some, f_X10_first_L18, if_neg (show ¬ (61 : Int32) ≤ nI (i + 1) from nI_ge (b := 61) (by omega) (by decide)), show (616 : Int32) = nI 616 from rfl, g1, Option.bind_some, has_bit (p64 h.1 g3) (by omega), Option.bind_some, g4 c hc, nI_1, nI_1, ef]
    rcases s_flag (C 21) (d + i) (itV (C 21) d (C (23 + c)) i) with z | z
    · rw [z, if_pos rfl, if_pos (by decide)]
      exact ih f1 f2 (i + 1) _ r1 (by omega) (by omega) (by omega) (sPass_c hv) g2 (fun p h => by rw [g5 p (by omega)]; exact hp p h)
    · rw [z, if_neg (show ¬ (1, tm_sr C 125 (sPass (C 21) (d + i) v)).1 = (0 : Int32) from by show ¬ (1 : Int32) = 0; decide), if_neg (show ¬ (if decide ((1 : Int32) = 1) = true then (1 : Int32) else 0) = 0 by decide)]
      exact ⟨_, _, _, rfl, rfl, fun p h => by rw [g5 p (by omega)]; exact hp p h⟩
theorem o_first (x : Int32) : oOK (fun C => f_X9_first C x) (fun N => f_X10_first N x) := by
  intro C N n hR
  rcases unk x hR with ⟨c, hc, rfl, u1, u2⟩ | ⟨u1, u2⟩
  · obtain ⟨d, hD, h7, hM⟩ := hR.cD
    obtain ⟨v, g1, g2⟩ := c_lay hD hc
    obtain ⟨r', k1, k2, k3⟩ := m_lay (m := 0) hD.1 h7 hD.2.1 (by decide) hD.2.2.2.2.1 hM
    obtain ⟨z, v2, r2, q1, q2, q3⟩ := first_L (ky := fun _ _ => none) hD h7 hc 60 1000 1000 0 v r' (by omega) (by omega) (by omega) g2 k2 k3
    refine oo_tri hR z (v := v2) ?_ ?_ q3
    · simp only [f_X9_first, u1, Option.bind_some, if_true]
      rw [rd_22 (by have := hD.1; omega), Option.bind_some, g1, Option.bind_some]
      exact q1
    · simp only [f_X10_first, u2, Option.bind_some]
      rw [if_neg (by decide), show (0 : Int32) = nI 0 from rfl, k1, Option.bind_some]
      exact q2
  · refine oo_same hR (-2) ?_ ?_
    · simp only [f_X9_first, u1, Option.bind_some]
      rw [if_neg (by decide)]
    · simp only [f_X10_first, u2, Option.bind_some, if_true]
/-! sums over the couples -/
def sumI (f : Nat → Int32) : Nat → Int32
  | 0 => 0
  | k + 1 => sumI f k + f k
theorem m_sum {N : tm_M} {n b w : Nat} {W : Int32} {k : Int32 → Int32 → Option Int32} {r : LV} (hW : W = nI w) (hn : n ≤ 6) (h7 : N 127 7 = nI n) (hb : b + w + 6 ≤ 672) : ∀ (j f i : Nat), i + j = n → j < f → f_X10_sumOf_L5 k (tm_sr N 132 r) (nI b) W f (sumI (fun c => r (b + w + c)) i) (nI i) = k (sumI (fun c => r (b + w + c)) n) (nI n) := by
  intro j
  induction j with
  | zero =>
    intro f i hi hf
    obtain ⟨f, rfl⟩ : ∃ g, f = g + 1 := ⟨f - 1, by omega⟩
    have : i = n := by omega
    subst this
    rw [f_X10_sumOf_L5, tm_sr_ne _ _ (show (127 : Nat) ≠ 132 by decide), h7, if_pos (nI_le (Nat.le_refl _) (by omega))]
  | succ j ih =>
    intro f i hi hf
    obtain ⟨f, rfl⟩ : ∃ g, f = g + 1 := ⟨f - 1, by omega⟩
    rw [f_X10_sumOf_L5, tm_sr_ne _ _ (show (127 : Nat) ≠ 132 by decide), h7, if_neg (nI_ge (by omega) (by omega)), m_rd hW (by omega), Option.bind_some, Option.bind_some, nI_1]
    exact ih f (i + 1) (by omega) (by omega)
theorem m_sumOf {N : tm_M} {n b w : Nat} {W : Int32} {r : LV} (hW : W = nI w) (hn : n ≤ 6) (h7 : N 127 7 = nI n) (hb : b + w + 6 ≤ 672) : f_X10_sumOf (tm_sr N 132 r) (nI b) W = some (sumI (fun c => r (b + w + c)) n) :=
  m_sum (k := fun v5 v6 => some v5) hW hn h7 hb n 1000 0 (by omega) (by omega)
theorem sumI_c {f g : Nat → Int32} {n : Nat} (h : ∀ c, c < n → f c = g c) : sumI f n = sumI g n := by
  induction n with
  | zero => rfl
  | succ n ih => rw [sumI, sumI, ih (fun c hc => h c (by omega)), h n (by omega)]
theorem sumI_sub (f g : Nat → Int32) (n : Nat) : sumI (fun c => f c - g c) n = sumI f n - sumI g n := by
  induction n with
  | zero => show (0 : Int32) = 0 - 0; decide
  | succ n ih =>
    rw [sumI, sumI, sumI, ih]
    simp only [Int32.sub_eq_add_neg, Int32.neg_add]
    ac_rfl
theorem m_bal {N : tm_M} {n b d : Nat} {r T : LV} {V : Nat → LV} (hb : b ≤ 616) (hn : n ≤ 6) (h7 : N 127 7 = nI n) (hD : mD N r b n d T V) : f_X10_balanceOf (tm_sr N 132 r) (nI b) = some (sumI (fun c => V c 8) n - sumI (fun c => V c 9) n) := by
  unfold f_X10_balanceOf
  rw [m_sumOf (w := 32) (W := 32) rfl hn h7 (by omega), Option.bind_some, m_sumOf (w := 38) (W := 38) rfl hn h7 (by omega), Option.bind_some, sumI_c (g := fun c => V c 8) (fun c hc => (hD.2.2.2 c hc).1.2.2.2.2.2.2.2.1), sumI_c (g := fun c => V c 9) (fun c hc => (hD.2.2.2 c hc).1.2.2.2.2.2.2.2.2.1)]
theorem c_bal {n d m : Nat} (hm : m ≤ 60) {k : Int32 → Int32 → tm_M → Option (Int32 × tm_M)} {T : LV} {U : Nat → LV} : ∀ (j f i : Nat) (C : tm_M), i + j = n → j < f → cD C n d → C 21 = T → (∀ c, c < n → C (23 + c) = U c) →
    ∃ v : LV, f_X9_balance_L17 k (nI m) f (sumI (fun c => itV T d (U c) m 8 - itV T d (U c) m 9) i) (nI i) C = k (sumI (fun c => itV T d (U c) m 8 - itV T d (U c) m 9) n) (nI n) (tm_sr C 125 v) := by
  intro j
  induction j with
  | zero =>
    intro f i C hi hf hD hT hU
    obtain ⟨f, rfl⟩ : ∃ g, f = g + 1 := ⟨f - 1, by omega⟩
    have : i = n := by omega
    subst this
    refine ⟨C 125, ?_⟩
    have hn := hD.1
    rw [f_X9_balance_L17, hD.2.2.1, if_pos (nI_le (Nat.le_refl _) (by omega)), tm_sr_self]
  | succ j ih =>
    intro f i C hi hf hD hT hU
    obtain ⟨f, rfl⟩ : ∃ g, f = g + 1 := ⟨f - 1, by omega⟩
    have hn := hD.1
    obtain ⟨v, e1, e2⟩ := c_try hD (show i < n by omega) hm
    obtain ⟨v2, e3⟩ := ih f (i + 1) (tm_sr C 125 v) (by omega) (by omega) (cD_sr (by decide) hD) (by rw [tm_sr_ne _ _ (by decide)]; exact hT) (fun c hc => by rw [tm_sr_ne _ _ (by omega)]; exact hU c hc)
    refine ⟨v2, ?_⟩
    rw [tm_sr_sr] at e3
    rw [f_X9_balance_L17, hD.2.2.1, if_neg (nI_ge (by omega) (by omega)), if_neg (show ¬ (6 : Int32) ≤ nI i from nI_ge (b := 6) (by omega) (by decide)), e1, Option.bind_some, Option.bind_some, nI_1, tm_sr_at, e2 8 (by decide), e2 9 (by decide), hT, hU i (by omega)]
    exact e3
theorem bal_m {C N : tm_M} {n m : Nat} (hR : Rel C N n) (hm : m ≤ 60) : ∃ (x : Int32) (v r' : LV), f_X9_balance C (nI m) = some (x, tm_sr C 125 v) ∧ f_X10_balance N (nI m) = some (x, tm_sr N 132 r') ∧ (m = 0 → ((f_X10_balanceOf N 0).bind fun r6 => some (r6 + 999999)) = some x) ∧ ∀ p, p < 616 → r' p = N 132 p := by
  obtain ⟨d, hD, h7, hM⟩ := hR.cD
  obtain ⟨r', k1, k2, k3⟩ := m_lay hD.1 h7 hD.2.1 hm hD.2.2.2.2.1 hM
  obtain ⟨v, e⟩ := c_bal (T := C 21) (U := fun c => C (23 + c)) hm (k := fun v10 v11 M12 => some (v10 + 999999, M12)) n 1000 0 C (by omega) (by have := hD.1; omega) hD rfl (fun c _ => rfl)
  rcases in_out (nI m) (a := 0) (n := 60) (A := 0) (N := 60) rfl rfl (by decide) (by decide) with ⟨m2, -, hm2, em, e1, e2⟩ | ⟨e1, e2⟩
  · refine ⟨sumI (fun c => itV (C 21) d (C (23 + c)) m 8 - itV (C 21) d (C (23 + c)) m 9) n + 999999, v, r', ?_, ?_, fun h0 => ?_, k3⟩
    · unfold f_X9_balance
      rw [e1, Option.bind_some, if_pos rfl]
      exact e
    · unfold f_X10_balance
      rw [e2, Option.bind_some, if_neg (by decide), k1, Option.bind_some, show (616 : Int32) = nI 616 from rfl, m_bal (by decide) hD.1 h7 k2, Option.bind_some, sumI_sub]
    · subst h0
      have hb := m_bal (b := 0) (by decide) hD.1 h7 hM
      rw [tm_sr_self] at hb
      rw [show (0 : Int32) = nI 0 from rfl, hb, Option.bind_some, sumI_sub]
      rfl
  · exfalso
    unfold f_X10_in at e2
    rw [if_neg (nI_pos (by omega)), if_neg (show ¬ (60 : Int32) < nI m by rw [show (60 : Int32) = nI 60 from rfl, nI_ltI (by omega) (by omega)]; omega)] at e2
    exact absurd e2 (by decide)
theorem o_balance (x : Int32) : oOK (fun C => f_X9_balance C x) (fun N => f_X10_balance N x) := by
  intro C N n hR
  rcases in_out x (a := 0) (n := 60) (A := 0) (N := 60) rfl rfl (by decide) (by decide) with ⟨m, -, hm, rfl, e1, e2⟩ | ⟨e1, e2⟩
  · obtain ⟨z, v, r', g1, g2, -, g3⟩ := bal_m hR hm
    exact oo_tri hR z g1 g2 g3
  · refine oo_same hR (-3) ?_ ?_
    · simp only [f_X9_balance, e1, Option.bind_some]
      rw [if_neg (by decide)]
    · simp only [f_X10_balance, e2, Option.bind_some, if_true]
