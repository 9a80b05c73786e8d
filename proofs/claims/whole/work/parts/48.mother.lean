/-! MOTHERS by chance -/
def itM (T : LV) (d : Nat) (s : Nat) (v : LV) : Nat → LV
  | 0 => v
  | k + 1 => sPass T (d + k) (if s.testBit k = true then sMore (itM T d s v k) 10 else itM T d s v k)
def mFl (T : LV) (d : Nat) (s : Nat) (v : LV) (k : Nat) : Int32 := sFlag T (d + k) (if s.testBit k = true then sMore (itM T d s v k) 10 else itM T d s v k)
def mBk (T : LV) (d : Nat) (s : Nat) (v : LV) : Nat → Bool
  | 0 => false
  | k + 1 => mBk T d s v k || decide (mFl T d s v k = 1)
theorem sMore_c {v w : LV} {x : Int32} (h : lEq v w) : lEq (sMore v x) (sMore w x) := by
  unfold sMore
  rw [h 2 (by decide)]
  exact h.up 2 rfl
theorem itM_c {T : LV} {d s : Nat} {v w : LV} (h : lEq v w) : ∀ k, lEq (itM T d s v k) (itM T d s w k)
  | 0 => h
  | k + 1 => by
    unfold itM
    refine sPass_c ?_
    split
    · exact sMore_c (itM_c h k)
    · exact itM_c h k
theorem mFl_c {T : LV} {d s : Nat} {v w : LV} (h : lEq v w) (k : Nat) : mFl T d s v k = mFl T d s w k := by
  unfold mFl
  refine sFlag_c ?_
  split
  · exact sMore_c (itM_c h k)
  · exact itM_c h k
theorem mBk_c {T : LV} {d s : Nat} {v w : LV} (h : lEq v w) : ∀ k, mBk T d s v k = mBk T d s w k
  | 0 => rfl
  | k + 1 => by rw [mBk, mBk, mBk_c h k, mFl_c h k]
theorem itM_ok {T : LV} {d s : Nat} {v : LV} (hT : tOK T) (hv : vOK d v) : ∀ k, d + k ≤ 1100 → vOK (d + k) (itM T d s v k)
  | 0, _ => hv
  | k + 1, h => by
    unfold itM
    have ih := itM_ok (s := s) hT hv k (by omega)
    refine v_pass (d := d + k) (by omega) hT ?_
    split
    · exact v_visit ih
    · exact ih
theorem mBk_up {T : LV} {d s : Nat} {v : LV} {i m : Nat} (h : mBk T d s v i = true) (him : i ≤ m) : mBk T d s v m = true := by
  induction m with
  | zero =>
    have : i = 0 := by omega
    subst this
    exact h
  | succ m ih =>
    by_cases e : i = m + 1
    · subst e
      exact h
    · rw [mBk, ih (by omega), Bool.true_or]
theorem bit6 {s c : Nat} (hs : s < 64) (hc : c < 6) : ((nI s >>> (nI c &&& 31)) &&& 1 = 0) ↔ ¬ s.testBit c = true := by
  rw [bit_at s hs c hc]
  by_cases h : s.testBit c = true
  · rw [if_pos h]
    exact ⟨fun e => absurd e (by decide), fun e => absurd h e⟩
  · rw [if_neg h]
    exact ⟨fun _ => h, fun _ => rfl⟩
/-- the class: whether it breaks -/
theorem mo_c {C : tm_M} {n d m s : Nat} {v0 : LV} {x : Int32} (hD : cD C n d) (hm : m ≤ 6) (hs : s < 64) (hv0 : vOK d v0) : ∀ (j f i : Nat), i + j = m → j < f → mBk (C 21) d s v0 i = false → ∃ v, f_X9_breaksByVisits_L19 (fun v17 M18 => some (0, M18)) x (nI m) (nI s) f (nI i) (tm_sr C 125 (itM (C 21) d s v0 i)) = some (if mBk (C 21) d s v0 m = true then 1 else 0, tm_sr C 125 v) := by
  intro j
  induction j with
  | zero =>
    intro f i hi hf hb
    obtain ⟨f, rfl⟩ : ∃ g, f = g + 1 := ⟨f - 1, by omega⟩
    have : i = m := by omega
    subst this
    exact ⟨_, by rw [f_X9_breaksByVisits_L19, if_pos (nI_le (Nat.le_refl _) (by omega)), hb]; rfl⟩
  | succ j ih =>
    intro f i hi hf hb
    obtain ⟨f, rfl⟩ : ∃ g, f = g + 1 := ⟨f - 1, by omega⟩
    have hd := hD.2.1
    have hok := itM_ok (s := s) hD.2.2.2.2.1 hv0 i (by omega)
    have hfl : mFl (C 21) d s v0 i = 0 ∨ mFl (C 21) d s v0 i = 1 := s_flag _ _ _
    have ihh := ih f (i + 1) (by omega) (by omega)
    have step : f_X9_breaksByVisits_L19 (fun v17 M18 => some (0, M18)) x (nI m) (nI s) (f + 1) (nI i) (tm_sr C 125 (itM (C 21) d s v0 i)) = if mFl (C 21) d s v0 i = 0 then f_X9_breaksByVisits_L19 (fun v17 M18 => some (0, M18)) x (nI m) (nI s) f (nI (i + 1)) (tm_sr C 125 (itM (C 21) d s v0 (i + 1))) else some (1, tm_sr C 125 (itM (C 21) d s v0 (i + 1))) := by
      rw [f_X9_breaksByVisits_L19, if_neg (nI_ge (by omega) (by omega)), nI_1]
      by_cases z : s.testBit i = true
      · rw [if_neg (fun e => ((bit6 hs (by omega)).mp e) z), s_visit (show tm_shp 125 = 0 by decide), Option.bind_some, tm_sr_at, tm_sr_sr, c_day hD (by omega) (v_visit hok).1, Option.bind_some, itM, mFl, if_pos z]
      · rw [if_pos ((bit6 hs (by omega)).mpr z), c_day hD (by omega) hok.1, Option.bind_some, itM, mFl, if_neg z]
    rw [step]
    rcases hfl with z | z
    · rw [if_pos z]
      refine ihh ?_
      rw [mBk, hb, z]
      rfl
    · rw [if_neg (by rw [z]; decide), mBk_up (i := i + 1) (m := m) (by rw [mBk, z, hb]; rfl) (by omega)]
      exact ⟨_, rfl⟩
theorem mo_cb {C : tm_M} {n d c m s : Nat} (hD : cD C n d) (hc : c < n) (hm : m ≤ 6) (hs : s < 64) : ∃ v, f_X9_breaksByVisits C (nI c) (nI m) (nI s) = some (if mBk (C 21) d s (C (23 + c)) m = true then 1 else 0, tm_sr C 125 v) := by
  obtain ⟨v, e1, hv⟩ := c_lay hD hc
  obtain ⟨v2, e2⟩ := mo_c (x := nI c) hD hm hs (vOK_c hv.sy (hD.2.2.2.2.2 c hc)) m 1000 0 (by omega) (by omega) rfl
  refine ⟨v2, ?_⟩
  unfold f_X9_breaksByVisits
  rw [rd_22 (by have := hD.1; omega), Option.bind_some, e1, Option.bind_some, ← mBk_c hv m]
  exact e2
/-! odds -/
def oN (q s : Nat) : Nat → Nat
  | 0 => 1
  | k + 1 => oN q s k * (if s.testBit k = true then q else 10 - q)
def sumN (f : Nat → Nat) : Nat → Nat
  | 0 => 0
  | k + 1 => sumN f k + f k
theorem oN_all : ∀ n, n < 7 → ∀ q, q < 11 → sumN (fun s => oN q s n) (2 ^ n) = 10 ^ n := by decide +kernel
theorem p10 : ∀ n, n < 7 → 10 ^ n ≤ 1000000 ∧ 0 < 10 ^ n := by decide
theorem sh_n : ∀ n, n < 7 → (1 : Int32) <<< (nI n &&& 31) = nI (2 ^ n) := pc_sh
theorem mo_o {m s q : Nat} (hm : m ≤ 6) (hs : s < 64) (hq : q ≤ 10) : f_X9_oddsOfVisits (nI m) (nI s) (nI q) = some (nI (oN q s m)) := by
  have h : ∀ (j f i : Nat), i + j = m → j < f → f_X9_oddsOfVisits_L5 (fun v5 v6 => some v5) (nI m) (nI s) (nI q) f (nI (oN q s i)) (nI i) = some (nI (oN q s m)) := by
    intro j
    induction j with
    | zero =>
      intro f i hi hf
      obtain ⟨f, rfl⟩ : ∃ g, f = g + 1 := ⟨f - 1, by omega⟩
      have : i = m := by omega
      subst this
      rw [f_X9_oddsOfVisits_L5, if_pos (nI_le (Nat.le_refl _) (by omega))]
    | succ j ih =>
      intro f i hi hf
      obtain ⟨f, rfl⟩ : ∃ g, f = g + 1 := ⟨f - 1, by omega⟩
      have ih2 := ih f (i + 1) (by omega) (by omega)
      rw [f_X9_oddsOfVisits_L5, if_neg (nI_ge (by omega) (by omega)), nI_1]
      by_cases z : s.testBit i = true
      · rw [oN, if_pos z] at ih2
        rw [if_neg (fun e => ((bit6 hs (by omega)).mp e) z), Option.bind_some, pk_mul]
        exact ih2
      · rw [oN, if_neg z] at ih2
        rw [if_pos ((bit6 hs (by omega)).mpr z), Option.bind_some, show (10 : Int32) - nI q = nI (10 - q) from pk_sub (a := 10) hq, pk_mul]
        exact ih2
  exact h m 1000 0 (by omega) (by omega)
/-- the reference: a visit that adds nothing -/
theorem up_0 {r : LV} {p s : Nat} (hs : s ≤ 99) (h : r p = nI s) : upd r p (if r p + 0 < 99 then r p + 0 else 99) = r := by
  have e : (if r p + 0 < 99 then r p + 0 else 99) = r p := by
    rw [tm_i_lit, h, v_lim (by omega), Nat.min_eq_left hs]
  rw [e, tm_up_same]
theorem mD_visit {M : tm_M} {r : LV} {b n d c : Nat} {T : LV} {V : Nat → LV} (hn : n ≤ 6) (hc : c < n) (h : mD M r b n d T V) : mD M (upd r (b + 7 + c) (if r (b + 7 + c) + 10 < 99 then r (b + 7 + c) + 10 else 99)) b n d T (fun i => if i = c then sMore (V i) 10 else V i) := by
  obtain ⟨h1, h2, ⟨w, hw, h3⟩, h4⟩ := h
  refine ⟨by rw [pk_un (by omega)]; exact h1, fun k hk => by rw [pk_un (by omega)]; exact h2 k hk, ⟨w, hw, by rw [pk_un (by omega)]; exact h3⟩, fun i hi => ?_⟩
  obtain ⟨g1, g2, g3⟩ := h4 i hi
  have htf : tfOK (upd r (b + 7 + c) (if r (b + 7 + c) + 10 < 99 then r (b + 7 + c) + 10 else 99)) b i d := by
    unfold tfOK
    rw [pk_un (by omega)]
    exact g3
  by_cases e : i = c
  · subst e
    show vR _ _ _ _ _ (if i = i then _ else _) ∧ vOK d (if i = i then _ else _) ∧ _
    rw [if_pos rfl]
    exact ⟨r_visit (by omega) g1, v_visit g2, htf⟩
  · show vR _ _ _ _ _ (if i = c then _ else _) ∧ vOK d (if i = c then _ else _) ∧ _
    rw [if_neg e]
    exact ⟨vR_ne (fun j hj => pk_un (by omega)) (by rw [pk_un (by omega)]) g1, g2, htf⟩
def sOf (s c i : Nat) : Nat := if i = c then s else 0
theorem mo_m {N : tm_M} {n d m c s q : Nat} {T : LV} {U : Nat → LV} {x4 x5 x6 : Int32} {k : Int32 → Int32 → Int32 → tm_M → Option (Int32 × tm_M)} (hn : n ≤ 6) (hc : c < n) (h7 : N 127 7 = nI n) (hd : d ≤ 999) (hm : m ≤ 6) (hs : s < 64) (hq : q ≤ 10) (hT : tOK T) : ∀ (j f i : Nat) (r : LV), i + j = m → j < f → mD N r 616 n (d + i) T (fun c' => itM T d (sOf s c c') (U c') i) → (∀ p, p < 616 → r p = N 132 p) →
    ∃ r' : LV, f_X10_mothers_L75 k (nI c) (nI m) (nI q) x4 x5 x6 (nI s) f (nI (oN q s i)) (if mBk T d s (U c) i = true then 1 else 0) (nI i) (tm_sr N 132 r) = k (nI (oN q s m)) (if mBk T d s (U c) m = true then 1 else 0) (nI m) (tm_sr N 132 r') ∧ ∀ p, p < 616 → r' p = N 132 p := by
  intro j
  induction j with
  | zero =>
    intro f i r hi hf hD hp
    obtain ⟨f, rfl⟩ : ∃ g, f = g + 1 := ⟨f - 1, by omega⟩
    have : i = m := by omega
    subst this
    exact ⟨r, by rw [f_X10_mothers_L75, if_pos (nI_le (Nat.le_refl _) (by omega))], hp⟩
  | succ j ih =>
    intro f i r hi hf hD hp
    obtain ⟨f, rfl⟩ : ∃ g, f = g + 1 := ⟨f - 1, by omega⟩
    have hnm : ¬ nI m ≤ nI i := nI_ge (by omega) (by omega)
    have hhas : f_X10_has (nI s) (nI i) = some (if s.testBit i = true then 1 else 0) := has_bit hs (by omega)
    -- what comes of the day, whatever the row was
    have fin : ∀ (r1 : LV) (fl : Nat), fl < 2 ^ n → (∀ i', i' < n → fl.testBit i' = decide (mFl T d (sOf s c i') (U i') i = 1)) → mD N r1 616 n (d + i + 1) T (fun c' => itM T d (sOf s c c') (U c') (i + 1)) → (∀ p, p < 616 → r1 p = N 132 p) →
        ∃ r' : LV, (if (if fl.testBit c = true then (1 : Int32) else 0) = 0 then (if (if mBk T d s (U c) i = true then (1 : Int32) else 0) = 0 then f_X10_mothers_L75 k (nI c) (nI m) (nI q) x4 x5 x6 (nI s) f (nI (oN q s (i + 1))) 0 (nI (i + 1)) (tm_sr N 132 r1) else f_X10_mothers_L75 k (nI c) (nI m) (nI q) x4 x5 x6 (nI s) f (nI (oN q s (i + 1))) 1 (nI (i + 1)) (tm_sr N 132 r1)) else f_X10_mothers_L75 k (nI c) (nI m) (nI q) x4 x5 x6 (nI s) f (nI (oN q s (i + 1))) 1 (nI (i + 1)) (tm_sr N 132 r1)) = k (nI (oN q s m)) (if mBk T d s (U c) m = true then 1 else 0) (nI m) (tm_sr N 132 r') ∧ ∀ p, p < 616 → r' p = N 132 p := by
      intro r1 fl hfl hbit hD1 hp1
      obtain ⟨r', q1, q2⟩ := ih f (i + 1) r1 (by omega) (by omega) hD1 hp1
      refine ⟨r', ?_, q2⟩
      rw [← q1]
      have hb := hbit c hc
      have hso : sOf s c c = s := if_pos rfl
      rw [hso] at hb
      rw [hb]
      have hbk : mBk T d s (U c) (i + 1) = (mBk T d s (U c) i || decide (mFl T d s (U c) i = 1)) := rfl
      rw [hbk]
      by_cases z : mFl T d s (U c) i = 1
      · rw [decide_eq_true z, Bool.or_true, if_neg (by decide)]
        rfl
      · rw [decide_eq_false z, Bool.or_false, if_pos (show (if false = true then (1 : Int32) else 0) = 0 from rfl)]
        by_cases z2 : mBk T d s (U c) i = true
        · rw [z2, if_neg (by decide)]
          rfl
        · rw [Bool.eq_false_iff.mpr z2, if_pos (show (if false = true then (1 : Int32) else 0) = 0 from rfl)]
          rfl
    by_cases z : s.testBit i = true
    · have hD2 := mD_visit hn hc hD
      obtain ⟨r1, fl, g1, g2, g3, g4, g5⟩ := m_pass (M := N) (b := 616) (by decide) hn h7 (by omega) hT hD2
      have eqv : ∀ c', c' < n → (if c' = c then sMore (itM T d (sOf s c c') (U c') i) 10 else itM T d (sOf s c c') (U c') i) = (if (sOf s c c').testBit i = true then sMore (itM T d (sOf s c c') (U c') i) 10 else itM T d (sOf s c c') (U c') i) := fun c' _ => by
        by_cases e : c' = c
        · rw [if_pos e, show sOf s c c' = s from if_pos e, if_pos z]
        · rw [if_neg e, show sOf s c c' = 0 from if_neg e, Nat.zero_testBit, if_neg (by decide)]
      rw [f_X10_mothers_L75, if_neg hnm, hhas, Option.bind_some, if_pos z, if_neg (by decide), Option.bind_some, Option.bind_some, if_neg (by decide), show (616 : Int32) = nI 616 from rfl, m_more (by decide) (by omega), Option.bind_some, g1, Option.bind_some, has_bit (p64 hn g3) (by omega), Option.bind_some, nI_1, pk_mul]
      have := fin r1 fl g3 (fun i' hi' => by rw [g4 i' hi']; unfold mFl; rw [eqv i' hi']) (mD_V hn g2 (fun c' hc' => by show sPass T (d + i) _ = sPass T (d + i) _; rw [eqv c' hc'])) (fun p h => by rw [g5 p (by omega), pk_un (by omega)]; exact hp p h)
      rw [oN, if_pos z] at this
      exact this
    · obtain ⟨r1, fl, g1, g2, g3, g4, g5⟩ := m_pass (M := N) (b := 616) (by decide) hn h7 (by omega) hT hD
      have eqv : ∀ c', c' < n → itM T d (sOf s c c') (U c') i = (if (sOf s c c').testBit i = true then sMore (itM T d (sOf s c c') (U c') i) 10 else itM T d (sOf s c c') (U c') i) := fun c' _ => by
        by_cases e : c' = c
        · rw [show sOf s c c' = s from if_pos e, if_neg z]
        · rw [show sOf s c c' = 0 from if_neg e, Nat.zero_testBit, if_neg (by decide)]
      obtain ⟨sv, hsv, esv⟩ := (hD.2.2.2 c hc).2.1.2.2.2.2.2.1
      have h72 : r (616 + 7 + c) = nI sv := (hD.2.2.2 c hc).1.2.2.1.trans esv
      rw [f_X10_mothers_L75, if_neg hnm, hhas, Option.bind_some, if_neg z, if_pos rfl, Option.bind_some, Option.bind_some, if_pos rfl, show (616 : Int32) = nI 616 from rfl, m_more (by decide) (by omega), Option.bind_some, up_0 hsv h72, g1, Option.bind_some, has_bit (p64 hn g3) (by omega), Option.bind_some, nI_1, show (10 : Int32) - nI q = nI (10 - q) from pk_sub (a := 10) hq, pk_mul]
      have := fin r1 fl g3 (fun i' hi' => by rw [g4 i' hi']; unfold mFl; rw [← eqv i' hi']) (mD_V hn g2 (fun c' hc' => by show sPass T (d + i) _ = sPass T (d + i) _; rw [← eqv c' hc'])) (fun p h => by rw [g5 p (by omega)]; exact hp p h)
      rw [oN, if_neg z] at this
      exact this
/-- all the ways -/
def aN (q m : Nat) (T : LV) (d : Nat) (v : LV) (s : Nat) : Nat := if mBk T d s v m = true then oN q s m else 0
theorem mo_L {C N : tm_M} {n d c m q : Nat} {x4 : Int32} {T : LV} {U : Nat → LV} {kc : Int32 → Int32 → tm_M → Option (Int32 × tm_M)} {km : Int32 → Int32 → Int32 → tm_M → Option (Int32 × tm_M)} (hD : cD C n d) (hCT : C 21 = T) (hCU : C (23 + c) = U c) (h7 : N 127 7 = nI n) (hM : mD N (N 132) 0 n d T U) (hc : c < n) (hm : m ≤ 6) (hq : q ≤ 10) : ∀ (j f1 f2 s : Nat) (v r : LV), s + j = 2 ^ m → j < f1 → j < f2 → (∀ p, p < 616 → r p = N 132 p) →
    ∃ v' r' : LV, f_X9_mothers_L50 kc (nI c) (nI m) (nI q) x4 f1 (nI (sumN (aN q m T d (U c)) s)) (nI s) (tm_sr C 125 v) = kc (nI (sumN (aN q m T d (U c)) (2 ^ m))) (nI (2 ^ m)) (tm_sr C 125 v') ∧ f_X10_mothers_L53 km (nI c) (nI m) (nI q) x4 f2 (nI (sumN (aN q m T d (U c)) s)) (nI (sumN (fun s => oN q s m) s)) (nI s) (tm_sr N 132 r) = km (nI (sumN (aN q m T d (U c)) (2 ^ m))) (nI (sumN (fun s => oN q s m) (2 ^ m))) (nI (2 ^ m)) (tm_sr N 132 r') ∧ ∀ p, p < 616 → r' p = N 132 p := by
  have h64 : 2 ^ m ≤ 2 ^ 6 := Nat.pow_le_pow_right (by decide) hm
  have hn := hD.1
  have hT : tOK T := by rw [← hCT]; exact hD.2.2.2.2.1
  intro j
  induction j with
  | zero =>
    intro f1 f2 s v r hs hf1 hf2 hr
    obtain ⟨f1, rfl⟩ : ∃ g, f1 = g + 1 := ⟨f1 - 1, by omega⟩
    obtain ⟨f2, rfl⟩ : ∃ g, f2 = g + 1 := ⟨f2 - 1, by omega⟩
    have e : s = 2 ^ m := by omega
    rw [e]
    exact ⟨v, r, by rw [f_X9_mothers_L50, sh_n m (by omega), if_pos (nI_le (Nat.le_refl _) (by omega))], by rw [f_X10_mothers_L53, sh_n m (by omega), if_pos (nI_le (Nat.le_refl _) (by omega))], hr⟩
  | succ j ih =>
    intro f1 f2 s v r hs hf1 hf2 hr
    obtain ⟨f1, rfl⟩ : ∃ g, f1 = g + 1 := ⟨f1 - 1, by omega⟩
    obtain ⟨f2, rfl⟩ : ∃ g, f2 = g + 1 := ⟨f2 - 1, by omega⟩
    have hs64 : s < 64 := by omega
    have hns : ¬ nI (2 ^ m) ≤ nI s := nI_ge (by omega) (by omega)
    obtain ⟨v1, e1⟩ := mo_cb (C := tm_sr C 125 v) (m := m) (cD_sr (by decide) hD) hc hm hs64
    rw [tm_sr_ne _ _ (show (21 : Nat) ≠ 125 by decide), tm_sr_ne _ _ (show 23 + c ≠ 125 by omega), tm_sr_sr, hCT, hCU] at e1
    obtain ⟨r0, k1, k2, k3⟩ := m_lay2 (m := 0) hn h7 hD.2.1 (by decide) hT hM hr
    obtain ⟨r1, g1, g2⟩ := mo_m (N := N) (U := U) (x4 := x4) (x5 := nI (sumN (aN q m T d (U c)) s)) (x6 := nI (sumN (fun s => oN q s m) s)) (k := fun v65 v66 v67 M68 => if v66 = 0 then (some (nI (sumN (aN q m T d (U c)) s) + 0)).bind fun x70 => (some (nI (sumN (fun s => oN q s m) s) + v65)).bind fun x71 => f_X10_mothers_L53 km (nI c) (nI m) (nI q) x4 f2 x70 x71 (nI s + 1) M68 else (some (nI (sumN (aN q m T d (U c)) s) + v65)).bind fun x72 => (some (nI (sumN (fun s => oN q s m) s) + v65)).bind fun x73 => f_X10_mothers_L53 km (nI c) (nI m) (nI q) x4 f2 x72 x73 (nI s + 1) M68) hn hc h7 hD.2.1 hm hs64 hq hT m 1000 0 r0 (by omega) (by omega) (mD_V hn k2 (fun _ _ => rfl)) k3
    obtain ⟨v2, r2, p1, p2, p3⟩ := ih f1 f2 (s + 1) v1 r1 (by omega) (by omega) (by omega) g2
    refine ⟨v2, r2, ?_, ?_, p3⟩
    · rw [f_X9_mothers_L50, sh_n m (by omega), if_neg hns, e1, Option.bind_some, mo_o hm hs64 hq, nI_1]
      dsimp only
      rw [sumN] at p1
      unfold aN at p1 ⊢
      by_cases z : mBk T d s (U c) m = true
      · rw [if_pos z] at p1
        rw [if_pos z, if_neg (by decide), Option.bind_some, Option.bind_some, nI_add]
        exact p1
      · rw [if_neg z] at p1
        rw [if_neg z, if_pos rfl]
        exact p1
    · rw [f_X10_mothers_L53, sh_n m (by omega), if_neg hns, show (0 : Int32) = nI 0 from rfl, k1, Option.bind_some]
      refine Eq.trans g1 ?_
      rw [← p2]
      show (if (if mBk T d s (U c) m = true then (1 : Int32) else 0) = 0 then _ else _) = f_X10_mothers_L53 km (nI c) (nI m) (nI q) x4 f2 (nI (sumN (aN q m T d (U c)) s + aN q m T d (U c) s)) (nI (sumN (fun s => oN q s m) s + oN q s m)) (nI (s + 1)) (tm_sr N 132 r1)
      by_cases z : mBk T d s (U c) m = true
      · rw [if_pos z, if_neg (by decide), Option.bind_some, Option.bind_some, nI_add, nI_add, nI_1, show aN q m T d (U c) s = oN q s m from if_pos z]
      · rw [if_neg z, if_pos rfl, Option.bind_some, Option.bind_some, tm_i_lit, nI_add, nI_1, show aN q m T d (U c) s = 0 from if_neg z]
        rfl
theorem sumN_le {f g : Nat → Nat} (h : ∀ i, f i ≤ g i) : ∀ n, sumN f n ≤ sumN g n
  | 0 => Nat.le_refl _
  | n + 1 => Nat.add_le_add (sumN_le h n) (h n)
/-- the common divisor -/
theorem gcd_L {kc : Int32 → Int32 → Int32 → Option Int32} {km : Int32 → Int32 → Option (Int32 × tm_M)} {M : tm_M} {w0 w1 y1 y2 y3 y4 y5 y6 : Int32} : ∀ (m i f1 f2 x y : Nat), y < 2 ^ m → m ≤ 30 → x < 2 ^ 30 → i + 2 * m < 64 → 2 * m + 1 < f1 → 2 * m + 1 < f2 → 0 < x + y →
    ∃ g i' : Nat, 0 < g ∧ g < 2 ^ 30 ∧ f_X9_commonDivisor_L7 kc w0 w1 f1 (nI x) (nI y) (nI i) = kc (nI g) 0 (nI i') ∧ f_X10_mothers_L197 km M y1 y2 y3 y4 y5 y6 f2 (nI x) (nI y) = km (nI g) 0 := by
  have base : ∀ (i f1 f2 x : Nat), x < 2 ^ 30 → i < 64 → 0 < f1 → 0 < f2 → 0 < x → ∃ g i' : Nat, 0 < g ∧ g < 2 ^ 30 ∧ f_X9_commonDivisor_L7 kc w0 w1 f1 (nI x) (nI 0) (nI i) = kc (nI g) 0 (nI i') ∧ f_X10_mothers_L197 km M y1 y2 y3 y4 y5 y6 f2 (nI x) (nI 0) = km (nI g) 0 := by
    intro i f1 f2 x hx hi hf1 hf2 h0
    obtain ⟨f1, rfl⟩ : ∃ g, f1 = g + 1 := ⟨f1 - 1, by omega⟩
    obtain ⟨f2, rfl⟩ : ∃ g, f2 = g + 1 := ⟨f2 - 1, by omega⟩
    refine ⟨x, i, h0, hx, ?_, ?_⟩
    · rw [f_X9_commonDivisor_L7, if_neg (show ¬ (64 : Int32) ≤ nI i from nI_ge (b := 64) hi (by decide)), if_pos (by decide)]
      rfl
    · rw [f_X10_mothers_L197, if_pos (by decide)]
      rfl
  have step : ∀ (i f1 f2 x y : Nat), 0 < y → y < 2 ^ 30 → x < 2 ^ 30 → i < 64 → f_X9_commonDivisor_L7 kc w0 w1 (f1 + 1) (nI x) (nI y) (nI i) = f_X9_commonDivisor_L7 kc w0 w1 f1 (nI y) (nI (x % y)) (nI (i + 1)) ∧ f_X10_mothers_L197 km M y1 y2 y3 y4 y5 y6 (f2 + 1) (nI x) (nI y) = f_X10_mothers_L197 km M y1 y2 y3 y4 y5 y6 f2 (nI y) (nI (x % y)) := by
    intro i f1 f2 x y h0 hy hx hi
    have n0 : ¬ nI y = 0 := nI_ne0 h0 (by omega)
    constructor
    · rw [f_X9_commonDivisor_L7, if_neg (show ¬ (64 : Int32) ≤ nI i from nI_ge (b := 64) hi (by decide)), if_neg (nI_nle h0 (by omega)), tm_gd_t n0, pk_rem (by omega) h0 (by omega), Option.bind_some, nI_1]
    · rw [f_X10_mothers_L197, if_neg n0, tm_gd_t n0, pk_rem (by omega) h0 (by omega), Option.bind_some]
  intro m
  induction m with
  | zero =>
    intro i f1 f2 x y hy hm hx hi hf1 hf2 h0
    have : y = 0 := by omega
    subst this
    exact base i f1 f2 x hx (by omega) (by omega) (by omega) (by omega)
  | succ m ih =>
    intro i f1 f2 x y hy hm hx hi hf1 hf2 h0
    have hp : 2 ^ (m + 1) ≤ 2 ^ 30 := Nat.pow_le_pow_right (by decide) hm
    have hp2 : 2 ^ (m + 1) = 2 * 2 ^ m := by rw [Nat.pow_succ, Nat.mul_comm]
    by_cases hy0 : y = 0
    · subst hy0
      exact base i f1 f2 x hx (by omega) (by omega) (by omega) (by omega)
    · obtain ⟨f1, rfl⟩ : ∃ g, f1 = g + 1 := ⟨f1 - 1, by omega⟩
      obtain ⟨f2, rfl⟩ : ∃ g, f2 = g + 1 := ⟨f2 - 1, by omega⟩
      obtain ⟨s1, s2⟩ := step i f1 f2 x y (by omega) (by omega) hx (by omega)
      rw [s1, s2]
      have hr : x % y < y := Nat.mod_lt _ (by omega)
      by_cases hr0 : x % y = 0
      · rw [hr0]
        exact base (i + 1) f1 f2 y (by omega) (by omega) (by omega) (by omega) (by omega)
      · obtain ⟨f1, rfl⟩ : ∃ g, f1 = g + 1 := ⟨f1 - 1, by omega⟩
        obtain ⟨f2, rfl⟩ : ∃ g, f2 = g + 1 := ⟨f2 - 1, by omega⟩
        obtain ⟨s3, s4⟩ := step (i + 1) f1 f2 y (x % y) (by omega) (by omega) (by omega) (by omega)
        rw [s3, s4]
        have h1 : y % (x % y) < x % y := Nat.mod_lt _ (by omega)
        have h2 : y % (x % y) ≤ y - x % y := by
          rw [Nat.mod_eq_sub_mod (Nat.le_of_lt hr)]
          exact Nat.mod_le _ _
        exact ih (i + 1 + 1) f1 f2 (x % y) (y % (x % y)) (by omega) (by omega) (by omega) (by omega) (by omega) (by omega) (by omega)
theorem mo_below {M : tm_M} {m : Nat} {x1 x3 x4 x5 : Int32} {k : Int32 → Int32 → Option (Int32 × tm_M)} : ∀ (j f i : Nat), i + j = m → j < f → m ≤ 6 → f_X9_mothers_L93 k M x1 (nI m) x3 x4 x5 f (nI (10 ^ i)) (nI i) = k (nI (10 ^ m)) (nI m) := by
  intro j
  induction j with
  | zero =>
    intro f i hi hf hm
    obtain ⟨f, rfl⟩ : ∃ g, f = g + 1 := ⟨f - 1, by omega⟩
    have : i = m := by omega
    subst this
    rw [f_X9_mothers_L93, if_pos (nI_le (Nat.le_refl _) (by omega))]
  | succ j ih =>
    intro f i hi hf hm
    obtain ⟨f, rfl⟩ : ∃ g, f = g + 1 := ⟨f - 1, by omega⟩
    have ih2 := ih f (i + 1) (by omega) (by omega) hm
    rw [f_X9_mothers_L93, if_neg (nI_ge (by omega) (by omega)), Option.bind_some, nI_1, show (10 : Int32) = nI 10 from rfl, pk_mul]
    rw [Nat.pow_succ] at ih2
    exact ih2
theorem o_mothers (x y z w : Int32) : oOK (fun C => f_X9_mothers C x y z w) (fun N => f_X10_mothers N x y z w) := by
  intro C N n hR
  rcases unk x hR with ⟨c, hc, rfl, u1, u2⟩ | ⟨u1, u2⟩
  · rcases in_out y (a := 0) (n := 6) (A := 0) (N := 6) rfl rfl (by decide) (by decide) with ⟨m, -, hm, rfl, e1, e2⟩ | ⟨e1, e2⟩
    · rcases in_out z (a := 0) (n := 10) (A := 0) (N := 10) rfl rfl (by decide) (by decide) with ⟨q, -, hq, rfl, e3, e4⟩ | ⟨e3, e4⟩
      · rcases in_out w (a := 0) (n := 1) (A := 0) (N := 1) rfl rfl (by decide) (by decide) with ⟨k, -, hk, rfl, e5, e6⟩ | ⟨e5, e6⟩
        · obtain ⟨d, hD, h7, hM⟩ := hR.cD
          have h64 : 2 ^ m ≤ 2 ^ 6 := Nat.pow_le_pow_right (by decide) hm
          have hle : sumN (aN q m (C 21) d (C (23 + c))) (2 ^ m) ≤ 10 ^ m := by
            rw [← oN_all m (by omega) q (by omega)]
            refine sumN_le (fun s => ?_) _
            unfold aN
            split
            · exact Nat.le_refl _
            · exact Nat.zero_le _
          obtain ⟨hb1, hb2⟩ := p10 m (by omega)
          obtain ⟨v, r, p1, p2, p3⟩ := mo_L (C := C) (N := N) (T := C 21) (U := fun c => C (23 + c)) (x4 := nI k) (kc := fun v20 v21 M22 => f_X9_mothers_L93 (fun v25 v26 => (f_X9_commonDivisor v20 v25).bind fun r27 => if nI k = 0 then tm_gd (¬ r27 = 0) <| some (v20 / r27, M22) else tm_gd (¬ r27 = 0) <| some (v25 / r27, M22)) M22 (nI c) (nI m) (nI q) (nI k) v20 1000 1 0) (km := fun v74 v75 v76 M77 => f_X10_mothers_L197 (fun v81 v82 => if nI k = 0 then tm_gd (¬ v81 = 0) <| some (v74 / v81, M77) else tm_gd (¬ v81 = 0) <| some (v75 / v81, M77)) M77 (nI c) (nI m) (nI q) (nI k) v74 v75 1000 v74 v75) hD rfl rfl h7 hM hc hm hq (2 ^ m) 1000 1000 0 (C 125) (N 132) (by omega) (by omega) (by omega) (fun _ _ => rfl)
          rw [tm_sr_self] at p1 p2
          rw [oN_all m (by omega) q (by omega)] at p2
          generalize sumN (aN q m (C 21) d ((fun c => C (23 + c)) c)) (2 ^ m) = A at hle p1 p2
          obtain ⟨g, i', g0, g1, g2, g3⟩ := gcd_L (M := tm_sr N 132 r) (w0 := nI A) (w1 := nI (10 ^ m)) (y1 := nI c) (y2 := nI m) (y3 := nI q) (y4 := nI k) (y5 := nI A) (y6 := nI (10 ^ m)) (kc := fun v5 v6 v7 => some (if 1 < v5 then v5 else 1)) (km := fun v81 v82 => if nI k = 0 then tm_gd (¬ v81 = 0) <| some (nI A / v81, tm_sr N 132 r) else tm_gd (¬ v81 = 0) <| some (nI (10 ^ m) / v81, tm_sr N 132 r)) 20 0 1000 1000 A (10 ^ m) (by omega) (by decide) (by omega) (by decide) (by decide) (by decide) (by omega)
          have gn0 : ¬ nI g = 0 := nI_ne0 g0 (by omega)
          have gmax : (if (1 : Int32) < nI g then nI g else 1) = nI g := by
            by_cases h1 : 1 < g
            · rw [if_pos (show (1 : Int32) < nI g from nI_lt (a := 1) h1 (by omega))]
            · have : g = 1 := by omega
              subst this
              rfl
          have hcd : f_X9_commonDivisor (nI A) (nI (10 ^ m)) = some (nI g) := by
            refine Eq.trans g2 ?_
            show some (if (1 : Int32) < nI g then nI g else 1) = _
            rw [gmax]
          refine oo_tri hR (if nI k = 0 then nI A / nI g else nI (10 ^ m) / nI g) (v := v) ?_ ?_ p3
          · simp only [f_X9_mothers, u1, e1, e3, e5, Option.bind_some, if_true]
            refine Eq.trans p1 ?_
            refine Eq.trans (mo_below m 1000 0 (by omega) (by omega) hm) ?_
            show ((f_X9_commonDivisor (nI A) (nI (10 ^ m))).bind fun r27 => _) = _
            rw [hcd, Option.bind_some, tm_gd_t gn0, tm_gd_t gn0]
            split <;> rfl
          · simp only [f_X10_mothers, u2, e2, e4, e6, Option.bind_some]
            rw [if_neg (by decide), if_neg (by decide), if_neg (by decide), if_neg (by decide)]
            refine Eq.trans p2 ?_
            refine Eq.trans g3 ?_
            show (if nI k = 0 then _ else _) = _
            rw [tm_gd_t gn0, tm_gd_t gn0]
            split <;> rfl
        · refine oo_same hR (-3) ?_ ?_
          · simp only [f_X9_mothers, u1, e1, e3, e5, Option.bind_some, if_true]
            rw [if_neg (by decide)]
          · simp only [f_X10_mothers, u2, e2, e4, e6, Option.bind_some, if_true]
            rw [if_neg (by decide), if_neg (by decide), if_neg (by decide)]
      · refine oo_same hR (-3) ?_ ?_
        · simp only [f_X9_mothers, u1, e1, e3, Option.bind_some, if_true]
          rw [if_neg (by decide)]
        · simp only [f_X10_mothers, u2, e2, e4, Option.bind_some, if_true]
          rw [if_neg (by decide), if_neg (by decide)]
    · refine oo_same hR (-3) ?_ ?_
      · simp only [f_X9_mothers, u1, e1, Option.bind_some, if_true]
        rw [if_neg (by decide)]
      · simp only [f_X10_mothers, u2, e2, Option.bind_some, if_true]
        rw [if_neg (by decide)]
  · refine oo_same hR (-2) ?_ ?_
    · simp only [f_X9_mothers, u1, Option.bind_some]
      rw [if_neg (by decide)]
    · simp only [f_X10_mothers, u2, Option.bind_some, if_true]
