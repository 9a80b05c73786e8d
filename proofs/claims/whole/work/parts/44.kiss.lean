/-! ON WHICH DAY A KISS SAVES MOST -/
def itK (T : LV) (d : Nat) (q : Nat → Bool) (v : LV) : Nat → LV
  | 0 => v
  | k + 1 => sPass T (d + k) (if q k = true then sKiss (itK T d q v k) else itK T d q v k)
theorem sKiss_c {v w : LV} (h : lEq v w) : lEq (sKiss v) (sKiss w) := by
  unfold sKiss
  exact ((h.up 2 (by rw [h 2 (by decide)])).up 3 rfl).up 4 rfl
theorem itK_c {T : LV} {d : Nat} {q : Nat → Bool} {v w : LV} (h : lEq v w) : ∀ k, lEq (itK T d q v k) (itK T d q w k)
  | 0 => h
  | k + 1 => by
    unfold itK
    refine sPass_c ?_
    split
    · exact sKiss_c (itK_c h k)
    · exact itK_c h k
theorem itK_ok {T : LV} {d : Nat} {q : Nat → Bool} {v : LV} (hT : tOK T) (hv : vOK d v) : ∀ k, d + k ≤ 1100 → vOK (d + k) (itK T d q v k)
  | 0, _ => hv
  | k + 1, h => by
    unfold itK
    have ih := itK_ok (q := q) hT hv k (by omega)
    refine v_pass (d := d + k) (by omega) hT ?_
    split
    · exact v_kiss ih
    · exact ih
theorem itK_q {T : LV} {d : Nat} {q q2 : Nat → Bool} {v : LV} (h : ∀ k, q k = q2 k) : ∀ k, itK T d q v k = itK T d q2 v k := by
  intro k
  rw [show q = q2 from funext h]
theorem mD_kiss {M : tm_M} {r : LV} {b n d c : Nat} {T : LV} {V : Nat → LV} (hn : n ≤ 6) (hc : c < n) (h : mD M r b n d T V) : mD M (rKiss r b c) b n d T (fun i => if i = c then sKiss (V i) else V i) := by
  obtain ⟨h1, h2, ⟨w, hw, h3⟩, h4⟩ := h
  obtain ⟨w2, k1, k2, k3, k4⟩ := rKiss_19 (r := r) (b := b) hn (show c < 6 by omega) hw h3
  refine ⟨by rw [rKiss_ne (by omega) (by omega) (by omega)]; exact h1, fun k hk => by rw [rKiss_ne (by omega) (by omega) (by omega)]; exact h2 k hk, ⟨w2, k1, k2⟩, fun i hi => ?_⟩
  obtain ⟨g1, g2, g3⟩ := h4 i hi
  have htf : tfOK (rKiss r b c) b i d := by
    unfold tfOK
    rw [rKiss_ne (by omega) (by omega) (by omega)]
    exact g3
  by_cases e : i = c
  · subst e
    show vR _ _ _ _ _ (if i = i then _ else _) ∧ vOK d (if i = i then _ else _) ∧ _
    rw [if_pos rfl]
    exact ⟨r_kiss (by omega) (p64 hn hw) h3 g1, v_kiss g2, htf⟩
  · show vR _ _ _ _ _ (if i = c then _ else _) ∧ vOK d (if i = c then _ else _) ∧ _
    rw [if_neg e]
    exact ⟨vR_ne (fun j hj => rKiss_ne (by omega) (by omega) (by omega)) (by rw [k2, h3, k4 i (by omega) e]) g1, g2, htf⟩
theorem mD_V {M : tm_M} {r : LV} {b n d : Nat} {T : LV} {V V' : Nat → LV} (hn : n ≤ 6) (h : mD M r b n d T V) (e : ∀ c, c < n → V' c = V c) : mD M r b n d T V' :=
  mD_mv hn (fun _ _ => rfl) (fun _ _ => rfl) (fun _ _ => rfl) (fun _ _ => rfl) (fun c hc => by rw [e c hc]; exact lEq.rf _) h
theorem m_lay2 {N : tm_M} {n d m : Nat} {r T : LV} {V : Nat → LV} (hn : n ≤ 6) (h7 : N 127 7 = nI n) (hd : d ≤ 999) (hm : m ≤ 60) (hT : tOK T) (hD : mD N (N 132) 0 n d T V) (hr : ∀ p, p < 616 → r p = N 132 p) : ∃ r' : LV, f_X10_layTried (tm_sr N 132 r) (nI m) = some (tm_sr N 132 r') ∧ mD N r' 616 n (d + m) T (fun c => itV T d (V c) m) ∧ ∀ p, p < 616 → r' p = N 132 p := by
  have hD2 : mD (tm_sr N 132 r) (tm_sr N 132 r 132) 0 n d T V := mD_mv hn (fun c _ => by rw [tm_sr_ne _ _ (by decide)]) (fun c _ => by rw [tm_sr_ne _ _ (by decide)]) (fun j hj => by rw [tm_sr_at]; exact hr _ (by omega)) (fun k _ => rfl) (fun c _ => lEq.rf _) hD
  obtain ⟨r', e1, e2, e3⟩ := m_lay (N := tm_sr N 132 r) hn (by rw [tm_sr_ne _ _ (by decide)]; exact h7) hd hm hT hD2
  rw [tm_sr_sr] at e1
  exact ⟨r', e1, mD_mv hn (fun c _ => by rw [tm_sr_ne _ _ (by decide)]) (fun c _ => by rw [tm_sr_ne _ _ (by decide)]) (fun j hj => rfl) (fun k _ => rfl) (fun c _ => lEq.rf _) e2, fun p hp => by rw [e3 p hp, tm_sr_at]; exact hr p hp⟩
/-- the class's days with a kiss -/
theorem c_kds {C : tm_M} {n d m : Nat} {v : LV} {x w : Int32} {q : Nat → Bool} {k : Int32 → tm_M → Option (Int32 × tm_M)} (h : cD C n d) (hm : m ≤ 60) (hv : vOK d v) (hq : ∀ i, i < 60 → (nI i = w ↔ q i = true)) : ∀ (j f i : Nat), i + j = m → j < f → f_X9_claimedIfKissed_L19 k x (nI m) w f (nI i) (tm_sr C 125 (itK (C 21) d q v i)) = k (nI m) (tm_sr C 125 (itK (C 21) d q v m)) := by
  intro j
  induction j with
  | zero =>
    intro f i hi hf
    obtain ⟨f, rfl⟩ : ∃ g, f = g + 1 := ⟨f - 1, by omega⟩
    have : i = m := by omega
    subst this
    rw [f_X9_claimedIfKissed_L19, if_pos (nI_le (Nat.le_refl _) (by omega))]
  | succ j ih =>
    intro f i hi hf
    obtain ⟨f, rfl⟩ : ∃ g, f = g + 1 := ⟨f - 1, by omega⟩
    have hok := itK_ok (q := q) h.2.2.2.2.1 hv i (by have := h.2.1; omega)
    have hih := ih f (i + 1) (by omega) (by omega)
    rw [f_X9_claimedIfKissed_L19, if_neg (nI_ge (by omega) (by omega)), nI_1]
    by_cases z : q i = true
    · rw [if_pos ((hq i (by omega)).mpr z), s_kiss (show tm_shp 125 = 0 by decide), Option.bind_some, tm_sr_at, tm_sr_sr, c_day h (by omega) (v_kiss hok).1, Option.bind_some]
      rw [itK, if_pos z] at hih
      exact hih
    · rw [if_neg (fun e => z ((hq i (by omega)).mp e)), c_day h (by omega) hok.1, Option.bind_some]
      rw [itK, if_neg z] at hih
      exact hih
theorem c_cik {C : tm_M} {n d m c : Nat} {w : Int32} {q : Nat → Bool} (h : cD C n d) (hm : m ≤ 60) (hc : c < n) (hq : ∀ i, i < 60 → (nI i = w ↔ q i = true)) : ∃ v, f_X9_claimedIfKissed C (nI c) (nI m) w = some (itK (C 21) d q (C (23 + c)) m 9, tm_sr C 125 v) := by
  obtain ⟨v, e, hv⟩ := c_lay h hc
  have hvo : vOK d v := vOK_c hv.sy (h.2.2.2.2.2 c hc)
  have := c_kds (k := fun v15 M16 => some (M16 125 9, M16)) (x := nI c) h hm hvo hq m 1000 0 (by omega) (by omega)
  refine ⟨itK (C 21) d q v m, ?_⟩
  unfold f_X9_claimedIfKissed
  rw [rd_22 (by have := h.1; omega), Option.bind_some, e, Option.bind_some]
  refine Eq.trans this ?_
  show some (tm_sr C 125 (itK (C 21) d q v m) 125 9, _) = _
  rw [tm_sr_at, itK_c hv m 9 (by decide)]
/-- the reference's -/
def qOf (q : Nat → Bool) (c i : Nat) : Nat → Bool := fun k => q k && decide (i = c)
theorem m_kds {N : tm_M} {n d m c : Nat} {T : LV} {V : Nat → LV} {w : Int32} {q : Nat → Bool} {k : Int32 → tm_M → Option (Int32 × tm_M)} (hn : n ≤ 6) (hc : c < n) (h7 : N 127 7 = nI n) (hd : d ≤ 999) (hm : m ≤ 60) (hT : tOK T) (hq : ∀ i, i < 60 → (nI i = w ↔ q i = true)) : ∀ (j f i : Nat) (r : LV), i + j = m → j < f → mD N r 616 n (d + i) T (fun c' => itK T d (qOf q c c') (V c') i) → (∀ p, p < 616 → r p = N 132 p) →
    ∃ r' : LV, f_X10_claimedBy_L8 k (nI c) w (nI m) f (nI i) (tm_sr N 132 r) = k (nI m) (tm_sr N 132 r') ∧ mD N r' 616 n (d + m) T (fun c' => itK T d (qOf q c c') (V c') m) ∧ ∀ p, p < 616 → r' p = N 132 p := by
  intro j
  induction j with
  | zero =>
    intro f i r hi hf hD hp
    obtain ⟨f, rfl⟩ : ∃ g, f = g + 1 := ⟨f - 1, by omega⟩
    have : i = m := by omega
    subst this
    exact ⟨r, by rw [f_X10_claimedBy_L8, if_pos (nI_le (Nat.le_refl _) (by omega))], hD, hp⟩
  | succ j ih =>
    intro f i r hi hf hD hp
    obtain ⟨f, rfl⟩ : ∃ g, f = g + 1 := ⟨f - 1, by omega⟩
    rw [f_X10_claimedBy_L8, if_neg (nI_ge (by omega) (by omega)), show (616 : Int32) = nI 616 from rfl, nI_1]
    by_cases z : q i = true
    · have hD2 := mD_kiss hn hc hD
      obtain ⟨r1, fl, g1, g2, g3, g4, g5⟩ := m_pass (M := N) (b := 616) (by decide) hn h7 (by omega) hT hD2
      rw [if_pos ((hq i (by omega)).mpr z), m_kiss (by decide) (by omega), Option.bind_some, g1, Option.bind_some]
      refine ih f (i + 1) r1 (by omega) (by omega) (mD_V hn g2 (fun c' hc' => ?_)) (fun p h => by rw [g5 p (by omega), rKiss_ne (by omega) (by omega) (by omega)]; exact hp p h)
      show sPass T (d + i) (if qOf q c c' i = true then _ else _) = sPass T (d + i) (if c' = c then _ else _)
      by_cases e : c' = c
      · rw [if_pos e, if_pos (by unfold qOf; rw [z, decide_eq_true e]; rfl)]
      · rw [if_neg e, if_neg (by unfold qOf; rw [decide_eq_false e, Bool.and_false]; decide)]
    · obtain ⟨r1, fl, g1, g2, g3, g4, g5⟩ := m_pass (M := N) (b := 616) (by decide) hn h7 (by omega) hT hD
      rw [if_neg (fun e => z ((hq i (by omega)).mp e)), g1, Option.bind_some]
      refine ih f (i + 1) r1 (by omega) (by omega) (mD_V hn g2 (fun c' hc' => ?_)) (fun p h => by rw [g5 p (by omega)]; exact hp p h)
      show sPass T (d + i) (if qOf q c c' i = true then _ else _) = sPass T (d + i) _
      rw [if_neg (by unfold qOf; rw [Bool.eq_false_iff.mpr z, Bool.false_and]; decide)]
theorem m_cby {N : tm_M} {n d m c : Nat} {r T : LV} {V : Nat → LV} {w : Int32} {q : Nat → Bool} (hn : n ≤ 6) (hc : c < n) (h7 : N 127 7 = nI n) (hd : d ≤ 999) (hm : m ≤ 60) (hT : tOK T) (hD : mD N (N 132) 0 n d T V) (hr : ∀ p, p < 616 → r p = N 132 p) (hq : ∀ i, i < 60 → (nI i = w ↔ q i = true)) :
    ∃ r' : LV, f_X10_claimedBy (tm_sr N 132 r) (nI c) w (nI m) = some (sumI (fun c' => itK T d (qOf q c c') (V c') m 9) n, tm_sr N 132 r') ∧ ∀ p, p < 616 → r' p = N 132 p := by
  obtain ⟨r0, k1, k2, k3⟩ := m_lay2 (m := 0) hn h7 hd (by decide) hT hD hr
  obtain ⟨r', e1, e2, e3⟩ := m_kds (q := q) (V := V) (k := fun v13 M14 => (f_X10_sumOf M14 616 38).bind fun r15 => some (r15, M14)) hn hc h7 hd hm hT hq m 1000 0 r0 (by omega) (by omega) (mD_V hn k2 (fun _ _ => rfl)) k3
  refine ⟨r', ?_, e3⟩
  unfold f_X10_claimedBy
  rw [show (0 : Int32) = nI 0 from rfl, k1, Option.bind_some]
  refine Eq.trans e1 ?_
  show ((f_X10_sumOf (tm_sr N 132 r') (nI 616) 38).bind fun r15 => some (r15, tm_sr N 132 r')) = _
  rw [m_sumOf (w := 38) (W := 38) rfl hn h7 (by decide), Option.bind_some, sumI_c (g := fun c' => itK T d (qOf q c c') (V c') m 9) (fun c' hc' => (e2.2.2.2 c' hc').1.2.2.2.2.2.2.2.2.1)]
/-- the sum without couple c -/
theorem sumI_out (f : Nat → Int32) {c n : Nat} (hc : c < n) : sumI f n = sumI (fun i => if i = c then 0 else f i) n + f c := by
  induction n with
  | zero => exact absurd hc (Nat.not_lt_zero _)
  | succ n ih =>
    rw [sumI, sumI]
    by_cases e : n = c
    · subst e
      rw [if_pos rfl, sumI_c (f := f) (g := fun i => if i = n then 0 else f i) (fun i hi => by rw [if_neg (by omega)])]
      simp
    · rw [ih (by omega), if_neg e]
      ac_rfl
theorem sumI_nI {f : Nat → Int32} {B n : Nat} (h : ∀ c, c < n → ∃ a, a ≤ B ∧ f c = nI a) : ∃ s, s ≤ n * B ∧ sumI f n = nI s := by
  induction n with
  | zero => exact ⟨0, by omega, rfl⟩
  | succ n ih =>
    obtain ⟨s, hs, e⟩ := ih (fun c hc => h c (by omega))
    obtain ⟨a, ha, e2⟩ := h n (by omega)
    refine ⟨s + a, ?_, by rw [sumI, e, e2, nI_add]⟩
    rw [Nat.add_mul]
    omega
theorem kis_L {C N : tm_M} {n d m c S : Nat} {T : LV} {U : Nat → LV} (hn : n ≤ 6) (hc : c < n) (hd : d ≤ 999) (hm : m ≤ 30) (hT : tOK T) (h7 : N 127 7 = nI n) (hM : mD N (N 132) 0 n d T U) (hS : S ≤ 660000) (hSum : ∀ q : Nat → Bool, sumI (fun c' => itK T d (qOf q c c') (U c') m 9) n = nI S + itK T d q (U c) m 9) (hC : cD C n d) (hCT : C 21 = T) (hCU : ∀ c, c < n → C (23 + c) = U c) : ∀ (j f1 f2 i x : Nat) (best : Int32) (v r : LV), i + j = m → j < f1 → j < f2 → x ≤ 110000 → (∀ p, p < 616 → r p = N 132 p) →
    ∃ (z : Int32) (v' r' : LV), f_X9_kissOn_L38 (fun v15 v16 v17 M18 => some (v15, M18)) (nI c) (nI m) f1 best (nI x) (nI i) (tm_sr C 125 v) = some (z, tm_sr C 125 v') ∧ f_X10_kissOn_L38 (fun v17 v18 v19 M20 => some (v17, M20)) (nI c) (nI m) f2 best (nI (S + x)) (nI i) (tm_sr N 132 r) = some (z, tm_sr N 132 r') ∧ ∀ p, p < 616 → r' p = N 132 p := by
  intro j
  induction j with
  | zero =>
    intro f1 f2 i x best v r hi hf1 hf2 hx hr
    obtain ⟨f1, rfl⟩ : ∃ g, f1 = g + 1 := ⟨f1 - 1, by omega⟩
    obtain ⟨f2, rfl⟩ : ∃ g, f2 = g + 1 := ⟨f2 - 1, by omega⟩
    have : i = m := by omega
    subst this
    exact ⟨best, v, r, by rw [f_X9_kissOn_L38, if_pos (nI_le (Nat.le_refl _) (by omega))], by rw [f_X10_kissOn_L38, if_pos (nI_le (Nat.le_refl _) (by omega))], hr⟩
  | succ j ih =>
    intro f1 f2 i x best v r hi hf1 hf2 hx hr
    obtain ⟨f1, rfl⟩ : ∃ g, f1 = g + 1 := ⟨f1 - 1, by omega⟩
    obtain ⟨f2, rfl⟩ : ∃ g, f2 = g + 1 := ⟨f2 - 1, by omega⟩
    have hq : ∀ k, k < 60 → (nI k = nI i ↔ decide (k = i) = true) := fun k hk => by rw [nI_eq (by omega) (by omega), decide_eq_true_iff]
    obtain ⟨v1, e1⟩ := c_cik (C := tm_sr C 125 v) (c := c) (q := fun k => decide (k = i)) (w := nI i) (m := m) (cD_sr (by decide) hC) (by omega) hc hq
    obtain ⟨r1, e2, e3⟩ := m_cby (N := N) (q := fun k => decide (k = i)) (w := nI i) (m := m) hn hc h7 hd (by omega) hT hM hr hq
    rw [tm_sr_ne _ _ (show (21 : Nat) ≠ 125 by decide), tm_sr_ne _ _ (show 23 + c ≠ 125 by omega), tm_sr_sr, hCT, hCU c hc] at e1
    have hok := itK_ok (q := fun k => decide (k = i)) hT (hM.2.2.2 c hc).2.1 m (by omega)
    obtain ⟨y, hy, ey⟩ := hok.2.2.2.2.2.2.2
    have hy2 : y ≤ 110000 := by omega
    rw [ey] at e1
    rw [hSum, ey, nI_add] at e2
    have him : ¬ nI m ≤ nI i := nI_ge (by omega) (by omega)
    rw [f_X9_kissOn_L38, if_neg him, e1, Option.bind_some, Option.bind_some, nI_1, f_X10_kissOn_L38, if_neg him, e2, Option.bind_some, Option.bind_some, nI_1]
    dsimp only
    by_cases z : x ≤ y
    · have a1 : nI x ≤ nI y := nI_le z (by omega)
      have a2 : nI (S + x) ≤ nI (S + y) := nI_le (by omega) (by omega)
      rw [if_pos a1, if_pos a2, if_pos a2]
      exact ih f1 f2 (i + 1) x best v1 r1 (by omega) (by omega) (by omega) hx e3
    · have a1 : ¬ nI x ≤ nI y := nI_ge (by omega) (by omega)
      have a2 : ¬ nI (S + x) ≤ nI (S + y) := nI_ge (by omega) (by omega)
      rw [if_neg a1, if_neg a2, if_neg a2]
      exact ih f1 f2 (i + 1) y (nI i) v1 r1 (by omega) (by omega) (by omega) hy2 e3
theorem o_kissOn (x y : Int32) : oOK (fun C => f_X9_kissOn C x y) (fun N => f_X10_kissOn N x y) := by
  intro C N n hR
  rcases unk x hR with ⟨c, hc, rfl, u1, u2⟩ | ⟨u1, u2⟩
  · rcases in_out y (a := 1) (n := 30) (A := 1) (N := 30) rfl rfl (by decide) (by decide) with ⟨m, -, hm, rfl, e1, e2⟩ | ⟨e1, e2⟩
    · obtain ⟨d, hD, h7, hM⟩ := hR.cD
      have hn := hD.1
      have hd := hD.2.1
      have hT := hD.2.2.2.2.1
      have hq0 : ∀ i, i < 60 → (nI i = (-1 : Int32) ↔ (fun _ => false : Nat → Bool) i = true) := fun i hi => ⟨fun e => absurd e (nI_nm1 (by omega)), fun e => by cases e⟩
      have hok : ∀ (q : Nat → Bool) (i : Nat), i < n → ∃ a, a ≤ 110000 ∧ itK (C 21) d q (C (23 + i)) m 9 = nI a := fun q i hi => by
        obtain ⟨a, ha, ea⟩ := (itK_ok (q := q) hT (hM.2.2.2 i hi).2.1 m (by omega)).2.2.2.2.2.2.2
        exact ⟨a, by omega, ea⟩
      obtain ⟨S, hS, eS⟩ := sumI_nI (f := fun i => if i = c then 0 else itK (C 21) d (qOf (fun _ => false) c i) (C (23 + i)) m 9) (B := 110000) (n := n) (fun i hi => by
        by_cases e : i = c
        · exact ⟨0, by omega, by rw [if_pos e]; rfl⟩
        · obtain ⟨a, ha, ea⟩ := hok (qOf (fun _ => false) c i) i hi
          exact ⟨a, ha, by rw [if_neg e]; exact ea⟩)
      have hS2 : S ≤ 660000 := by
        have : n * 110000 ≤ 6 * 110000 := Nat.mul_le_mul_right _ hn
        omega
      have hSum : ∀ q : Nat → Bool, sumI (fun c' => itK (C 21) d (qOf q c c') (C (23 + c')) m 9) n = nI S + itK (C 21) d q (C (23 + c)) m 9 := fun q => by
        rw [sumI_out _ hc, ← eS]
        refine congr (congrArg _ (sumI_c (fun i hi => ?_))) ?_
        · by_cases e : i = c
          · rw [if_pos e, if_pos e]
          · rw [if_neg e, if_neg e, itK_q (q := qOf q c i) (q2 := qOf (fun _ => false) c i) (fun k => by unfold qOf; rw [decide_eq_false e, Bool.and_false, Bool.and_false])]
        · rw [itK_q (q := qOf q c c) (q2 := q) (fun k => by unfold qOf; rw [decide_eq_true rfl, Bool.and_true])]
      obtain ⟨v1, k1⟩ := c_cik (c := c) (q := fun _ => false) (w := -1) (m := m) hD (by omega) hc hq0
      obtain ⟨r1, k2, k3⟩ := m_cby (N := N) (r := N 132) (q := fun _ => false) (w := -1) (m := m) hn hc h7 hd (by omega) hT hM (fun _ _ => rfl) hq0
      obtain ⟨a, ha, ea⟩ := hok (fun _ => false) c hc
      rw [tm_sr_self, hSum] at k2
      rw [ea] at k1
      rw [ea, nI_add] at k2
      obtain ⟨z, v2, r2, p1, p2, p3⟩ := kis_L (C := C) (N := N) hn hc hd hm hT h7 hM hS2 hSum hD rfl (fun _ _ => rfl) m 1000 1000 0 a (-1) v1 r1 (by omega) (by omega) (by omega) ha k3
      refine oo_tri hR z (v := v2) ?_ ?_ p3
      · simp only [f_X9_kissOn, u1, Option.bind_some, if_true, e1]
        rw [k1, Option.bind_some]
        exact p1
      · simp only [f_X10_kissOn, u2, Option.bind_some, e2]
        rw [if_neg (by decide), if_neg (by decide), k2, Option.bind_some]
        exact p2
    · refine oo_same hR (-3) ?_ ?_
      · simp only [f_X9_kissOn, u1, Option.bind_some, if_true, e1]
        rw [if_neg (by decide)]
      · simp only [f_X10_kissOn, u2, Option.bind_some, e2, if_true]
        rw [if_neg (by decide)]
  · refine oo_same hR (-2) ?_ ?_
    · simp only [f_X9_kissOn, u1, Option.bind_some]
      rw [if_neg (by decide)]
    · simp only [f_X10_kissOn, u2, Option.bind_some, if_true]
