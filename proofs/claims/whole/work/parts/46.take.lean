/-! WHICH COUPLES TO TAKE -/
theorem sr_st {M : tm_M} {o o' k : Nat} {x : Int32} {r : LV} (h : o' ≠ o) : tm_st (tm_sr M o r) o' k x = tm_sr (tm_st M o' k x) o r := by
  rw [tm_st_sr, tm_st_sr, tm_sr_ne _ _ h]
  funext a
  by_cases ha : a = o
  · subst ha
    rw [tm_sr_at, tm_sr_ne _ _ (fun e => h e.symm), tm_sr_at]
  · rw [tm_sr_ne (tm_sr M o' _) _ ha]
    by_cases hb : a = o'
    · subst hb
      rw [tm_sr_at, tm_sr_at]
    · rw [tm_sr_ne _ _ hb, tm_sr_ne _ _ hb, tm_sr_ne _ _ ha]
def pc (w : Nat) : Nat := w % 2 + w / 2 % 2 + w / 4 % 2 + w / 8 % 2 + w / 16 % 2 + w / 32 % 2
theorem pc_6 (w : Nat) : pc w ≤ 6 := by
  unfold pc
  omega
theorem pc_m : ∀ w, w < 64 → f_X10_bits (nI w) = some (nI (pc w)) := by decide +kernel
theorem pc_c : ∀ w, w < 64 → f_J6_bitCount_0f7a4 (nI w) = some (nI (pc w)) := by decide +kernel
theorem pc_and : ∀ a, a < 64 → ∀ b, b < 64 → nI a &&& nI b = nI (a &&& b) := by decide +kernel
theorem pc_ex : ∀ n, n < 7 → ∀ k, k < n + 1 → ∃ s, s < 2 ^ n ∧ pc s = k := by decide +kernel
theorem pc_sh : ∀ n, n < 7 → (1 : Int32) <<< (nI n &&& 31) = nI (2 ^ n) := by decide +kernel
def mo (f : Nat → Nat) : Nat → Nat
  | 0 => 0
  | k + 1 => max (mo f k) (f k)
theorem mo_6 {f : Nat → Nat} (h : ∀ i, f i ≤ 6) : ∀ m, mo f m ≤ 6
  | 0 => Nat.zero_le 6
  | m + 1 => Nat.max_le.mpr ⟨mo_6 h m, h m⟩
theorem max_c {a b : Nat} (ha : a ≤ 6) (hb : b ≤ 6) : (if nI a < nI b then nI b else nI a) = nI (max a b) := by
  by_cases h : a < b
  · rw [if_pos (nI_lt h (by omega)), Nat.max_eq_right (by omega)]
  · rw [if_neg (nI_nlt (by omega) (by omega)), Nat.max_eq_left (by omega)]
theorem t_mostc {M : tm_M} {s m : Nat} {F : Nat → Nat} (hm : m ≤ 60) (hs : s < 64) (hF : ∀ i, i < m → M 126 i = nI (F i) ∧ F i < 64) {k : Int32 → Int32 → Option Int32} : ∀ (j f i : Nat), i + j = m → j < f → f_X9_mostAtOnce_L5 k M (nI s) (nI m) f (nI (mo (fun i => pc (F i &&& s)) i)) (nI i) = k (nI (mo (fun i => pc (F i &&& s)) m)) (nI m) := by
  intro j
  induction j with
  | zero =>
    intro f i hi hf
    obtain ⟨f, rfl⟩ : ∃ g, f = g + 1 := ⟨f - 1, by omega⟩
    have : i = m := by omega
    subst this
    rw [f_X9_mostAtOnce_L5, if_pos (nI_le (Nat.le_refl _) (by omega))]
  | succ j ih =>
    intro f i hi hf
    obtain ⟨f, rfl⟩ : ∃ g, f = g + 1 := ⟨f - 1, by omega⟩
    obtain ⟨e1, e2⟩ := hF i (by omega)
    rw [f_X9_mostAtOnce_L5, if_neg (nI_ge (by omega) (by omega)), if_neg (show ¬ (60 : Int32) ≤ nI i from nI_ge (b := 60) (by omega) (by decide)), tm_rdN (by omega) (by decide), Option.bind_some, e1, pc_and _ e2 _ hs, pc_c _ (Nat.lt_of_le_of_lt Nat.and_le_left e2), Option.bind_some, Option.bind_some, nI_1, max_c (mo_6 (fun i => pc_6 _) _) (pc_6 _)]
    exact ih f (i + 1) (by omega) (by omega)
theorem t_mostm {M : tm_M} {s m : Nat} {F : Nat → Nat} {x1 x3 x4 x5 : Int32} (hm : m ≤ 60) (hs : s < 64) (hF : ∀ i, i < m → M 142 i = nI (F i) ∧ F i < 64) {k : Int32 → Int32 → Option (Int32 × tm_M)} : ∀ (j f i : Nat), i + j = m → j < f → f_X10_take_L103 k M x1 (nI m) x3 x4 x5 (nI s) f (nI (mo (fun i => pc (F i &&& s)) i)) (nI i) = k (nI (mo (fun i => pc (F i &&& s)) m)) (nI m) := by
  intro j
  induction j with
  | zero =>
    intro f i hi hf
    obtain ⟨f, rfl⟩ : ∃ g, f = g + 1 := ⟨f - 1, by omega⟩
    have : i = m := by omega
    subst this
    rw [f_X10_take_L103, if_pos (nI_le (Nat.le_refl _) (by omega))]
  | succ j ih =>
    intro f i hi hf
    obtain ⟨f, rfl⟩ : ∃ g, f = g + 1 := ⟨f - 1, by omega⟩
    obtain ⟨e1, e2⟩ := hF i (by omega)
    have ih2 := ih f (i + 1) (by omega) (by omega)
    rw [f_X10_take_L103, if_neg (show ¬ nI m ≤ nI i from nI_ge (by omega) (by omega)), tm_rdN (by omega) (by decide), Option.bind_some, e1, pc_and _ e2 _ hs, pc_m _ (Nat.lt_of_le_of_lt Nat.and_le_left e2), Option.bind_some, nI_1]
    have h6 := mo_6 (f := fun i => pc (F i &&& s)) (fun i => pc_6 _) i
    have h7 := pc_6 (F i &&& s)
    by_cases h : pc (F i &&& s) ≤ mo (fun i => pc (F i &&& s)) i
    · rw [if_pos (nI_le h (by omega))]
      rw [mo, Nat.max_eq_left h] at ih2
      exact ih2
    · rw [if_neg (nI_ge (by omega) (by omega))]
      rw [mo, Nat.max_eq_right (by omega)] at ih2
      exact ih2
/-- who breaks on day i, by bits -/
def bP (T : LV) (d : Nat) (U : Nat → LV) (n : Nat) (b : LV) (i : Nat) : Prop := ∃ f, f < 2 ^ n ∧ b i = nI f ∧ ∀ c, c < n → f.testBit c = decide (sFlag T (d + i) (itV T d (U c) i) = 1)
theorem t_mdays {N : tm_M} {n d m : Nat} {T : LV} {U : Nat → LV} {x1 x3 : Int32} {k : Int32 → tm_M → Option (Int32 × tm_M)} (hn : n ≤ 6) (h7 : N 127 7 = nI n) (hd : d ≤ 999) (hm : m ≤ 60) (hT : tOK T) : ∀ (j f i : Nat) (b r : LV), i + j = m → j < f → mD N r 616 n (d + i) T (fun c => itV T d (U c) i) → (∀ p, p < 616 → r p = N 132 p) → (∀ x, x < i → bP T d U n b x) →
    ∃ b' r' : LV, f_X10_take_L50 k x1 (nI m) x3 f (nI i) (tm_sr (tm_sr N 142 b) 132 r) = k (nI m) (tm_sr (tm_sr N 142 b') 132 r') ∧ (∀ p, p < 616 → r' p = N 132 p) ∧ ∀ x, x < m → bP T d U n b' x := by
  intro j
  induction j with
  | zero =>
    intro f i b r hi hf hD hp hb
    obtain ⟨f, rfl⟩ : ∃ g, f = g + 1 := ⟨f - 1, by omega⟩
    have : i = m := by omega
    subst this
    exact ⟨b, r, by rw [f_X10_take_L50, if_pos (nI_le (Nat.le_refl _) (by omega))], hp, hb⟩
  | succ j ih =>
    intro f i b r hi hf hD hp hb
    obtain ⟨f, rfl⟩ : ∃ g, f = g + 1 := ⟨f - 1, by omega⟩
    have hD2 : mD (tm_sr N 142 b) r 616 n (d + i) T (fun c => itV T d (U c) i) := mD_mv hn (fun c _ => by rw [tm_sr_ne _ _ (by decide)]) (fun c _ => by rw [tm_sr_ne _ _ (by decide)]) (fun _ _ => rfl) (fun _ _ => rfl) (fun c _ => lEq.rf _) hD
    obtain ⟨r1, fl, g1, g2, g3, g4, g5⟩ := m_pass (M := tm_sr N 142 b) (b := 616) (by decide) hn (by rw [tm_sr_ne _ _ (by decide)]; exact h7) (by omega) hT hD2
    have g2' : mD N r1 616 n (d + i + 1) T (fun c => sPass T (d + i) (itV T d (U c) i)) := mD_mv hn (fun c _ => by rw [tm_sr_ne _ _ (by decide)]) (fun c _ => by rw [tm_sr_ne _ _ (by decide)]) (fun _ _ => rfl) (fun _ _ => rfl) (fun c _ => lEq.rf _) g2
    rw [f_X10_take_L50, if_neg (nI_ge (by omega) (by omega)), show (616 : Int32) = nI 616 from rfl, g1, Option.bind_some, tm_wrN (by omega) (by decide), Option.bind_some, nI_1, sr_st (by decide), tm_st_sr, tm_sr_sr, tm_sr_at]
    refine ih f (i + 1) _ r1 (by omega) (by omega) g2' (fun p h => by rw [g5 p (by omega)]; exact hp p h) (fun x hx => ?_)
    by_cases e : x = i
    · subst e
      exact ⟨fl, g3, pk_us, g4⟩
    · obtain ⟨w, w1, w2, w3⟩ := hb x (by omega)
      exact ⟨w, w1, by rw [pk_un e]; exact w2, w3⟩
theorem t_zero {C : tm_M} {m : Nat} {k : Int32 → tm_M → Option tm_M} (hm : m ≤ 60) : ∀ (j f i : Nat) (b : LV), i + j = m → j < f → (∀ x, x < i → b x = 0) → ∃ b' : LV, f_X9_foreseeBreaks_L2 k (nI m) f (nI i) (tm_sr C 126 b) = k (nI m) (tm_sr C 126 b') ∧ ∀ x, x < m → b' x = 0 := by
  intro j
  induction j with
  | zero =>
    intro f i b hi hf hb
    obtain ⟨f, rfl⟩ : ∃ g, f = g + 1 := ⟨f - 1, by omega⟩
    have : i = m := by omega
    subst this
    exact ⟨b, by rw [f_X9_foreseeBreaks_L2, if_pos (nI_le (Nat.le_refl _) (by omega))], hb⟩
  | succ j ih =>
    intro f i b hi hf hb
    obtain ⟨f, rfl⟩ : ∃ g, f = g + 1 := ⟨f - 1, by omega⟩
    rw [f_X9_foreseeBreaks_L2, if_neg (nI_ge (by omega) (by omega)), if_neg (show ¬ (60 : Int32) ≤ nI i from nI_ge (b := 60) (by omega) (by decide)), tm_wrN (by omega) (by decide), Option.bind_some, nI_1, tm_st_sr, tm_sr_sr, tm_sr_at]
    refine ih f (i + 1) _ (by omega) (by omega) (fun x hx => ?_)
    by_cases e : x = i
    · subst e
      exact pk_us
    · rw [pk_un e]
      exact hb x (by omega)
theorem t_inner {C : tm_M} {n d m c : Nat} {k : Int32 → tm_M → Option tm_M} {v0 : LV} {U : Nat → LV} (hD : cD C n d) (hm : m ≤ 60) (hc : c < 6) (hv0 : vOK d v0) (hU : lEq v0 (U c)) : ∀ (j f i : Nat) (b : LV), i + j = m → j < f → (∀ x, x < i → bP (C 21) d U (c + 1) b x) → (∀ x, i ≤ x → x < m → bP (C 21) d U c b x) →
    ∃ b' v' : LV, f_X9_foreseeBreaks_L63 k (nI m) (nI c) f (nI i) (tm_sr (tm_sr C 126 b) 125 (itV (C 21) d v0 i)) = k (nI m) (tm_sr (tm_sr C 126 b') 125 v') ∧ ∀ x, x < m → bP (C 21) d U (c + 1) b' x := by
  intro j
  induction j with
  | zero =>
    intro f i b hi hf hb _
    obtain ⟨f, rfl⟩ : ∃ g, f = g + 1 := ⟨f - 1, by omega⟩
    have : i = m := by omega
    subst this
    exact ⟨b, _, by rw [f_X9_foreseeBreaks_L63, if_pos (nI_le (Nat.le_refl _) (by omega))], hb⟩
  | succ j ih =>
    intro f i b hi hf hb hb2
    obtain ⟨f, rfl⟩ : ∃ g, f = g + 1 := ⟨f - 1, by omega⟩
    have hd := hD.2.1
    have hok := itV_ok hD.2.2.2.2.1 hv0 i (by omega)
    have hday := c_day (C := tm_sr C 126 b) (i := i) (cD_sr (by decide) hD) (by omega) hok.1
    rw [tm_sr_ne C b (show (21 : Nat) ≠ 126 by decide)] at hday
    have ef : sFlag (C 21) (d + i) (itV (C 21) d v0 i) = sFlag (C 21) (d + i) (itV (C 21) d (U c) i) := sFlag_c (itV_c hU i)
    obtain ⟨w, w1, w2, w3⟩ := hb2 i (Nat.le_refl _) (by omega)
    have hw1 : w < 2 ^ (c + 1) := Nat.lt_of_lt_of_le w1 (Nat.pow_le_pow_right (by decide) (by omega))
    rw [f_X9_foreseeBreaks_L63, if_neg (nI_ge (by omega) (by omega)), if_neg (show ¬ (60 : Int32) ≤ nI i from nI_ge (b := 60) (by omega) (by decide)), hday, Option.bind_some, nI_1]
    dsimp only
    rcases s_flag (C 21) (d + i) (itV (C 21) d v0 i) with z | z
    · rw [z, if_pos rfl]
      refine ih f (i + 1) b (by omega) (by omega) (fun x hx => ?_) (fun x h1 h2 => hb2 x (by omega) h2)
      by_cases e : x = i
      · subst e
        refine ⟨w, hw1, w2, fun c2 hc2 => ?_⟩
        by_cases e2 : c2 = c
        · subst e2
          rw [Nat.testBit_lt_two_pow w1, ← ef, z]
          rfl
        · exact w3 c2 (by omega)
      · exact hb x (by omega)
    · rw [z, if_neg (by decide), show tm_rd (tm_sr (tm_sr C 126 b) 125 (sPass (C 21) (d + i) (itV (C 21) d v0 i))) 126 60 (nI i) = some (b i) from by rw [tm_rdN (by omega) (by decide), tm_sr_ne _ _ (by decide), tm_sr_at], Option.bind_some, tm_wrN (by omega) (by decide), Option.bind_some, sr_st (by decide), tm_st_sr, tm_sr_sr, tm_sr_at, w2, bit_or w (p64 (n := c) (by omega) w1) c hc]
      refine ih f (i + 1) _ (by omega) (by omega) (fun x hx => ?_) (fun x h1 h2 => ?_)
      · by_cases e : x = i
        · subst e
          refine ⟨w ||| 2 ^ c, Nat.or_lt_two_pow hw1 (Nat.pow_lt_pow_right (by decide) (by omega)), pk_us, fun c2 hc2 => ?_⟩
          by_cases e2 : c2 = c
          · subst e2
            rw [Nat.testBit_or, Nat.testBit_two_pow_self, Bool.or_true, ← ef, z]
            rfl
          · rw [Nat.testBit_or, Nat.testBit_two_pow, decide_eq_false (fun q => e2 q.symm), Bool.or_false]
            exact w3 c2 (by omega)
        · obtain ⟨q, q1, q2, q3⟩ := hb x (by omega)
          exact ⟨q, q1, by rw [pk_un e]; exact q2, q3⟩
      · obtain ⟨q, q1, q2, q3⟩ := hb2 x (by omega) h2
        exact ⟨q, q1, by rw [pk_un (by omega)]; exact q2, q3⟩
theorem t_outer {C : tm_M} {n d m : Nat} {k : Int32 → tm_M → Option tm_M} (hD : cD C n d) (hm : m ≤ 60) : ∀ (j f c : Nat) (b v : LV), c + j = n → j < f → (∀ x, x < m → bP (C 21) d (fun c => C (23 + c)) c b x) →
    ∃ b' v' : LV, f_X9_foreseeBreaks_L28 k (nI m) f (nI c) (tm_sr (tm_sr C 126 b) 125 v) = k (nI n) (tm_sr (tm_sr C 126 b') 125 v') ∧ ∀ x, x < m → bP (C 21) d (fun c => C (23 + c)) n b' x := by
  intro j
  induction j with
  | zero =>
    intro f i b v hi hf hb
    obtain ⟨f, rfl⟩ : ∃ g, f = g + 1 := ⟨f - 1, by omega⟩
    have : i = n := by omega
    subst this
    have hn := hD.1
    exact ⟨b, v, by rw [f_X9_foreseeBreaks_L28, tm_sr_ne _ _ (show (20 : Nat) ≠ 125 by decide), tm_sr_ne _ _ (show (20 : Nat) ≠ 126 by decide), hD.2.2.1, if_pos (nI_le (Nat.le_refl _) (by omega))], hb⟩
  | succ j ih =>
    intro f i b v hi hf hb
    obtain ⟨f, rfl⟩ : ∃ g, f = g + 1 := ⟨f - 1, by omega⟩
    have hn := hD.1
    have hD2 : cD (tm_sr (tm_sr C 126 b) 125 v) n d := cD_sr (by decide) (cD_sr (by decide) hD)
    obtain ⟨v1, e1, e2⟩ := c_lay hD2 (show i < n by omega)
    rw [tm_sr_ne _ _ (show 23 + i ≠ 125 by omega), tm_sr_ne _ _ (show 23 + i ≠ 126 by omega)] at e2
    rw [tm_sr_sr] at e1
    have hv1 : vOK d v1 := vOK_c e2.sy (hD.2.2.2.2.2 i (by omega))
    rw [f_X9_foreseeBreaks_L28, tm_sr_ne _ _ (show (20 : Nat) ≠ 125 by decide), tm_sr_ne _ _ (show (20 : Nat) ≠ 126 by decide), hD.2.2.1, if_neg (nI_ge (by omega) (by omega)), if_neg (show ¬ (6 : Int32) ≤ nI i from nI_ge (b := 6) (by omega) (by decide)), rd_22 (by omega), Option.bind_some, e1, Option.bind_some]
    obtain ⟨b1, v2, g1, g2⟩ := t_inner (k := fun v23 M24 => f_X9_foreseeBreaks_L28 k (nI m) f (nI i + 1) M24) (U := fun c => C (23 + c)) hD hm (show i < 6 by omega) hv1 e2 m 1000 0 b (by omega) (by omega) (fun x hx => absurd hx (Nat.not_lt_zero _)) (fun x _ h2 => hb x h2)
    obtain ⟨b3, v3, g3, g4⟩ := ih f (i + 1) b1 v2 (by omega) (by omega) g2
    refine ⟨b3, v3, ?_, g4⟩
    refine Eq.trans g1 ?_
    show f_X9_foreseeBreaks_L28 k (nI m) f (nI i + 1) _ = _
    rw [nI_1]
    exact g3
theorem t_fore {C : tm_M} {n d m : Nat} (hD : cD C n d) (hm : m ≤ 60) : ∃ b v : LV, f_X9_foreseeBreaks C (nI m) = some (tm_sr (tm_sr C 126 b) 125 v) ∧ ∀ x, x < m → bP (C 21) d (fun c => C (23 + c)) n b x := by
  obtain ⟨b0, e0, z0⟩ := t_zero (C := C) (k := fun v5 M6 => f_X9_foreseeBreaks_L28 (fun v25 M26 => some M26) (nI m) 1000 0 M6) hm m 1000 0 (C 126) (by omega) (by omega) (fun x hx => absurd hx (Nat.not_lt_zero _))
  obtain ⟨b1, v1, e1, z1⟩ := t_outer (k := fun v25 M26 => some M26) hD hm n 1000 0 b0 (C 125) (by omega) (by have := hD.1; omega) (fun x hx => ⟨0, by decide, (z0 x hx).trans rfl, fun c hc => absurd hc (Nat.not_lt_zero _)⟩)
  refine ⟨b1, v1, ?_, z1⟩
  rw [tm_sr_self] at e0
  have e : tm_sr (tm_sr C 126 b0) 125 (C 125) = tm_sr C 126 b0 := by
    have := tm_sr_self (tm_sr C 126 b0) 125
    rw [tm_sr_ne C b0 (show (125 : Nat) ≠ 126 by decide)] at this
    exact this
  rw [e] at e1
  exact Eq.trans e0 e1
/-- the best set -/
theorem t_sets {C N : tm_M} {n m k : Nat} {F : Nat → Nat} {x1 x3 y1 y2 y3 : Int32} (hn : n ≤ 6) (hk : k ≤ n) (hm : m ≤ 60) (hx1 : x1 = nI k) (hy2 : y2 = nI m) (hC2 : C 20 2 = nI n) (h7 : N 127 7 = nI n) (hF : ∀ i, i < m → C 126 i = nI (F i) ∧ F i < 64) (hG : ∀ i, i < m → N 142 i = nI (F i) ∧ F i < 64) {kc km : Int32 → Int32 → Int32 → Option (Int32 × tm_M)} : ∀ (j f1 f2 s : Nat) (b1 l1 b2 l2 : Int32), s + j = 2 ^ n → j < f1 → j < f2 → ((b1 = b2 ∧ l1 = l2 ∧ ∃ L, L ≤ 6 ∧ l1 = nI L) ∨ (b1 = 0 ∧ l1 = 7 ∧ b2 = -1 ∧ l2 = 9 ∧ ∀ s', s' < s → pc s' ≠ k)) →
    ∃ B L : Int32, f_X9_take_L60 kc C x1 y2 x3 f1 b1 l1 (nI s) = kc B L (nI (2 ^ n)) ∧ f_X10_take_L86 km N x1 y2 y3 f2 b2 l2 (nI s) = km B L (nI (2 ^ n)) := by
  have h64 : 2 ^ n ≤ 2 ^ 6 := Nat.pow_le_pow_right (by decide) hn
  subst hy2
  intro j
  induction j with
  | zero =>
    intro f1 f2 s b1 l1 b2 l2 hs hf1 hf2 hI
    obtain ⟨f1, rfl⟩ : ∃ g, f1 = g + 1 := ⟨f1 - 1, by omega⟩
    obtain ⟨f2, rfl⟩ : ∃ g, f2 = g + 1 := ⟨f2 - 1, by omega⟩
    have e : s = 2 ^ n := by omega
    subst e
    rcases hI with ⟨rfl, rfl, -⟩ | ⟨-, -, -, -, h⟩
    · refine ⟨b1, l1, ?_, ?_⟩
      · rw [f_X9_take_L60, hC2, pc_sh n (by omega), if_pos (nI_le (Nat.le_refl _) (by omega))]
      · rw [f_X10_take_L86, h7, pc_sh n (by omega), if_pos (nI_le (Nat.le_refl _) (by omega))]
    · obtain ⟨s', q1, q2⟩ := pc_ex n (by omega) k (by omega)
      exact absurd q2 (h s' q1)
  | succ j ih =>
    intro f1 f2 s b1 l1 b2 l2 hs hf1 hf2 hI
    obtain ⟨f1, rfl⟩ : ∃ g, f1 = g + 1 := ⟨f1 - 1, by omega⟩
    obtain ⟨f2, rfl⟩ : ∃ g, f2 = g + 1 := ⟨f2 - 1, by omega⟩
    have hs64 : s < 64 := by omega
    have h6 := mo_6 (f := fun i => pc (F i &&& s)) (fun i => pc_6 _) m
    have ec : f_X9_mostAtOnce C (nI s) (nI m) = some (nI (mo (fun i => pc (F i &&& s)) m)) := t_mostc (k := fun v8 v9 => some v8) hm hs64 hF m 1000 0 (by omega) (by omega)
    have em : f_X10_take_L103 (fun v28 v29 => (f_X10_bits (nI s)).bind fun r30 => if r30 = x1 then (if l2 ≤ v28 then f_X10_take_L86 km N x1 (nI m) y3 f2 b2 l2 (nI (s + 1)) else f_X10_take_L86 km N x1 (nI m) y3 f2 (nI s) v28 (nI (s + 1))) else f_X10_take_L86 km N x1 (nI m) y3 f2 b2 l2 (nI (s + 1))) N x1 (nI m) y3 b2 l2 (nI s) 1000 0 0 = (if nI (pc s) = x1 then (if l2 ≤ nI (mo (fun i => pc (F i &&& s)) m) then f_X10_take_L86 km N x1 (nI m) y3 f2 b2 l2 (nI (s + 1)) else f_X10_take_L86 km N x1 (nI m) y3 f2 (nI s) (nI (mo (fun i => pc (F i &&& s)) m)) (nI (s + 1))) else f_X10_take_L86 km N x1 (nI m) y3 f2 b2 l2 (nI (s + 1))) := by
      refine Eq.trans (t_mostm (M := N) (x1 := x1) (x3 := y3) (x4 := b2) (x5 := l2) hm hs64 hG m 1000 0 (by omega) (by omega)) ?_
      show ((f_X10_bits (nI s)).bind fun r30 => _) = _
      rw [pc_m s hs64, Option.bind_some]
    rw [f_X9_take_L60, hC2, pc_sh n (by omega), if_neg (nI_ge (by omega) (by omega)), pc_c s hs64, Option.bind_some, ec, Option.bind_some, f_X10_take_L86, h7, pc_sh n (by omega), if_neg (nI_ge (show s < 2 ^ n by omega) (by omega)), nI_1, em]
    by_cases hp : pc s = k
    · have ep : nI (pc s) = x1 := by rw [hp, hx1]
      rw [if_pos ep, if_pos ep]
      rcases hI with ⟨rfl, rfl, L, hL, rfl⟩ | ⟨rfl, rfl, rfl, rfl, -⟩
      · by_cases z : L ≤ mo (fun i => pc (F i &&& s)) m
        · have a1 := nI_le z (show mo (fun i => pc (F i &&& s)) m < 2 ^ 31 by omega)
          rw [if_pos a1, if_pos a1]
          exact ih f1 f2 (s + 1) _ _ _ _ (by omega) (by omega) (by omega) (Or.inl ⟨rfl, rfl, L, hL, rfl⟩)
        · have a1 := nI_ge (show mo (fun i => pc (F i &&& s)) m < L by omega) (by omega)
          rw [if_neg a1, if_neg a1]
          exact ih f1 f2 (s + 1) _ _ _ _ (by omega) (by omega) (by omega) (Or.inl ⟨rfl, rfl, _, h6, rfl⟩)
      · have a1 : ¬ (7 : Int32) ≤ nI (mo (fun i => pc (F i &&& s)) m) := nI_ge (b := 7) (by omega) (by decide)
        have a2 : ¬ (9 : Int32) ≤ nI (mo (fun i => pc (F i &&& s)) m) := nI_ge (b := 9) (by omega) (by decide)
        rw [if_neg a1, if_neg a2]
        exact ih f1 f2 (s + 1) _ _ _ _ (by omega) (by omega) (by omega) (Or.inl ⟨rfl, rfl, _, h6, rfl⟩)
    · have h66 := pc_6 s
      have ep : ¬ nI (pc s) = x1 := fun e => by
        rw [hx1] at e
        exact hp ((nI_eq (by omega) (by omega)).mp e)
      rw [if_neg ep, if_neg ep, if_pos (Int32.le_refl _)]
      refine ih f1 f2 (s + 1) _ _ _ _ (by omega) (by omega) (by omega) ?_
      rcases hI with h | ⟨q1, q2, q3, q4, q5⟩
      · exact Or.inl h
      · refine Or.inr ⟨q1, q2, q3, q4, fun s' hs' => ?_⟩
        by_cases e : s' = s
        · subst e
          exact hp
        · exact q5 s' (by omega)
theorem o_take (x y z : Int32) : oOK (fun C => f_X9_take C x y z) (fun N => f_X10_take N x y z) := by
  intro C N n hR
  rcases in_out x (a := 0) (n := 6) (A := 0) (N := 6) rfl rfl (by decide) (by decide) with ⟨k, -, hk, rfl, e1, e2⟩ | ⟨e1, e2⟩
  · rcases in_out y (a := 1) (n := 60) (A := 1) (N := 60) rfl rfl (by decide) (by decide) with ⟨m, -, hm, rfl, e3, e4⟩ | ⟨e3, e4⟩
    · rcases in_out z (a := 0) (n := 1) (A := 0) (N := 1) rfl rfl (by decide) (by decide) with ⟨w, -, hw, rfl, e5, e6⟩ | ⟨e5, e6⟩
      · obtain ⟨d, hD, h7, hM⟩ := hR.cD
        have hn := hD.1
        have hd := hD.2.1
        by_cases hkn : k ≤ n
        · have hle : nI k ≤ nI n := nI_le hkn (by omega)
          obtain ⟨b, v, c1, c2⟩ := t_fore hD hm
          obtain ⟨r0, k1, k2, k3⟩ := m_lay (m := 0) hn h7 hd (by decide) hD.2.2.2.2.1 hM
          have hn142 : tm_sr N 142 (N 142) = N := tm_sr_self N 142
          obtain ⟨b', r', g1, g2, g3⟩ := t_mdays (N := N) (U := fun c => C (23 + c)) (x1 := nI k) (x3 := nI w) (k := fun v19 M20 => f_X10_take_L86 (fun v40 v41 v42 => if nI w = 0 then some (v40, M20) else some (v41, M20)) M20 (nI k) (nI m) (nI w) 1000 (-1) 9 0) hn h7 hd hm hD.2.2.2.2.1 m 1000 0 (N 142) r0 (by omega) (by omega) k2 k3 (fun x hx => absurd hx (Nat.not_lt_zero _))
          rw [hn142] at g1
          have hF : ∀ i, i < m → tm_sr (tm_sr C 126 b) 125 v 126 i = nI (b i).toNatClampNeg ∧ (b i).toNatClampNeg < 64 := fun i hi => by
            obtain ⟨f, f1, f2, -⟩ := c2 i hi
            rw [tm_sr_ne _ _ (by decide), tm_sr_at, f2, nI_clamp (by have := p64 hn f1; omega)]
            exact ⟨rfl, p64 hn f1⟩
          have hG : ∀ i, i < m → tm_sr (tm_sr N 142 b') 132 r' 142 i = nI (b i).toNatClampNeg ∧ (b i).toNatClampNeg < 64 := fun i hi => by
            obtain ⟨f, f1, f2, f3⟩ := c2 i hi
            obtain ⟨g, p1, p2, p3⟩ := g3 i hi
            have e : f = g := fl_eq f1 p1 f3 p3
            subst e
            rw [tm_sr_ne _ _ (by decide), tm_sr_at, p2, f2, nI_clamp (by have := p64 hn f1; omega)]
            exact ⟨rfl, p64 hn f1⟩
          obtain ⟨B, L, s1, s2⟩ := t_sets (C := tm_sr (tm_sr C 126 b) 125 v) (N := tm_sr (tm_sr N 142 b') 132 r') (x1 := nI k) (x3 := nI w) (y1 := 0) (y2 := nI m) (y3 := nI w) (kc := fun v22 v23 v24 => if nI w = 0 then some (v22, tm_sr (tm_sr C 126 b) 125 v) else some (v23, tm_sr (tm_sr C 126 b) 125 v)) (km := fun v40 v41 v42 => if nI w = 0 then some (v40, tm_sr (tm_sr N 142 b') 132 r') else some (v41, tm_sr (tm_sr N 142 b') 132 r')) hn hkn hm rfl rfl (by rw [tm_sr_ne _ _ (by decide), tm_sr_ne _ _ (by decide)]; exact hD.2.2.1) (by rw [tm_sr_ne _ _ (by decide), tm_sr_ne _ _ (by decide)]; exact h7) hF hG (2 ^ n) 1000 1000 0 0 7 (-1) 9 (by omega) (by have h64 : 2 ^ n ≤ 2 ^ 6 := Nat.pow_le_pow_right (by decide) hn; omega) (by have h64 : 2 ^ n ≤ 2 ^ 6 := Nat.pow_le_pow_right (by decide) hn; omega) (Or.inr ⟨rfl, rfl, rfl, rfl, fun s' h => absurd h (Nat.not_lt_zero _)⟩)
          have hcx : f_X9_take C (nI k) (nI m) (nI w) = if nI w = 0 then some (B, tm_sr (tm_sr C 126 b) 125 v) else some (L, tm_sr (tm_sr C 126 b) 125 v) := by
            simp only [f_X9_take, e1, e3, e5, Option.bind_some, if_true]
            rw [hD.2.2.1, if_pos hle, c1, Option.bind_some]
            exact s1
          have hnx : f_X10_take N (nI k) (nI m) (nI w) = if nI w = 0 then some (B, tm_sr (tm_sr N 142 b') 132 r') else some (L, tm_sr (tm_sr N 142 b') 132 r') := by
            simp only [f_X10_take, e2, e4, e6, Option.bind_some]
            rw [if_neg (by decide), if_neg (by decide), if_neg (by decide), h7, if_pos hle, show (0 : Int32) = nI 0 from rfl, k1, Option.bind_some]
            exact Eq.trans g1 s2
          refine ⟨if nI w = 0 then B else L, tm_sr (tm_sr C 126 b) 125 v, tm_sr (tm_sr N 142 b') 132 r', n, ?_, ?_, Rel_sc ⟨fun a h _ _ _ _ => by rw [tm_sr_ne _ _ (by omega), tm_sr_ne _ _ (by omega)], by rw [tm_sr_ne _ _ (by decide), tm_sr_ne _ _ (by decide)]⟩ ⟨fun a _ h2 _ _ h4 => by rw [tm_sr_ne _ _ h2, tm_sr_ne _ _ h4], ?_, ?_, ?_, ?_, fun p hp => by rw [tm_sr_at]; exact g2 p hp⟩ hR, fun a ha => by rw [tm_sr_ne _ _ (by omega), tm_sr_ne _ _ (by omega)], fun a ha => by rw [tm_sr_ne _ _ (by omega), tm_sr_ne _ _ (by omega)]⟩
          · show f_X9_take C (nI k) (nI m) (nI w) = _
            rw [hcx]
            split <;> rfl
          · show f_X10_take N (nI k) (nI m) (nI w) = _
            rw [hnx]
            split <;> rfl
          · rw [tm_sr_ne _ _ (by decide), tm_sr_ne _ _ (by decide)]
          · rw [tm_sr_ne _ _ (by decide), tm_sr_ne _ _ (by decide)]
          · rw [tm_sr_ne _ _ (by decide), tm_sr_ne _ _ (by decide)]
          · rw [tm_sr_ne _ _ (by decide), tm_sr_ne _ _ (by decide)]
        · have hle : ¬ nI k ≤ nI n := nI_ge (by omega) (by omega)
          refine oo_same hR (-1) ?_ ?_
          · simp only [f_X9_take, e1, e3, e5, Option.bind_some, if_true, hD.2.2.1, if_neg hle]
          · simp only [f_X10_take, e2, e4, e6, Option.bind_some, h7, if_neg hle]
            rw [if_neg (by decide), if_neg (by decide), if_neg (by decide)]
      · refine oo_same hR (-3) ?_ ?_
        · simp only [f_X9_take, e1, e3, e5, Option.bind_some, if_true]
          rw [if_neg (by decide)]
        · simp only [f_X10_take, e2, e4, e6, Option.bind_some, if_true]
          rw [if_neg (by decide), if_neg (by decide)]
    · refine oo_same hR (-3) ?_ ?_
      · simp only [f_X9_take, e1, e3, Option.bind_some, if_true]
        rw [if_neg (by decide)]
      · simp only [f_X10_take, e2, e4, Option.bind_some, if_true]
        rw [if_neg (by decide)]
  · refine oo_same hR (-3) ?_ ?_
    · simp only [f_X9_take, e1, Option.bind_some]
      rw [if_neg (by decide)]
    · simp only [f_X10_take, e2, Option.bind_some, if_true]
