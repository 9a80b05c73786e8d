/-! TEMPERS that fit what was seen -/
theorem f_fits {C : tm_M} {n d c t e : Nat} {y : Int32} (hD : cD C n d) (hc : c < n) (ht : t ≤ 9) (he : e ≤ 30) : ∃ v, f_X9_fits C (nI c) (nI t) (nI e) y = some (if itV (C 21) d (upd (C (23 + c)) 1 (nI t)) e 2 = y then 1 else 0, tm_sr C 125 v) := by
  obtain ⟨v, e1, hv⟩ := c_lay hD hc
  have hv1 : lEq (upd v 1 (nI t)) (upd (C (23 + c)) 1 (nI t)) := hv.up 1 rfl
  have hok : vOK d (upd v 1 (nI t)) := by
    have h := vOK_c hv.sy (hD.2.2.2.2.2 c hc)
    obtain ⟨h0, h4, h11, h3, h1, h2, h8, h9⟩ := h
    exact ⟨h0, h4, h11, h3, ⟨t, ht, rfl⟩, h2, h8, h9⟩
  have hp := c_days (k := fun v4 M5 => some M5) hD (show e ≤ 60 by omega) hok e 1000 0 (by omega) (by omega)
  refine ⟨itV (C 21) d (upd v 1 (nI t)) e, ?_⟩
  unfold f_X9_fits f_X9_passTried
  rw [rd_22 (by have := hD.1; omega), Option.bind_some, e1, Option.bind_some, Option.bind_some, tm_st_sr, tm_sr_sr, tm_sr_at]
  rw [show f_X9_passTried_L2 (fun v4 M5 => some M5) (nI e) 1000 0 (tm_sr C 125 (upd v 1 (nI t))) = some (tm_sr C 125 (itV (C 21) d (upd v 1 (nI t)) e)) from hp, Option.bind_some, tm_sr_at, itV_c hv1 e 2 (by decide)]
  split <;> rfl
theorem mD_temper {N : tm_M} {n d c : Nat} {x : Int32} {t : Nat} {T : LV} {U : Nat → LV} (hn : n ≤ 6) (hc : c < n) (ht : t ≤ 9) (hx : x = nI t) (hM : mD N (N 132) 0 n d T U) : mD (tm_st N 135 c x) (tm_st N 135 c x 132) 0 n d T (fun i => if i = c then upd (U c) 1 x else U i) := by
  rw [tm_stn _ _ _ (show (132 : Nat) ≠ 135 by decide)]
  obtain ⟨h1, h2, h3, h4⟩ := hM
  refine ⟨h1, h2, h3, fun i hi => ?_⟩
  obtain ⟨⟨k0, k1, k2, k3, k4, k5, k6, k8, k9, k10, k11⟩, ⟨o0, o4, o11, o3, o1, o2, o8, o9⟩, h5⟩ := h4 i hi
  have e134 : tm_st N 135 c x 134 = N 134 := tm_stn _ _ _ (by decide)
  have e135 : tm_st N 135 c x 135 = upd (N 135) c x := tm_sta _ _ _ _
  by_cases e : i = c
  · subst e
    show vR _ _ _ _ _ (if i = i then _ else _) ∧ vOK d (if i = i then _ else _) ∧ _
    rw [if_pos rfl]
    exact ⟨⟨by rw [e134]; exact k0, by rw [e135, pk_us]; rfl, k2, k3, k4, k5, k6, k8, k9, k10, k11⟩, ⟨o0, o4, o11, o3, ⟨t, ht, hx⟩, o2, o8, o9⟩, h5⟩
  · show vR _ _ _ _ _ (if i = c then _ else _) ∧ vOK d (if i = c then _ else _) ∧ _
    rw [if_neg e]
    exact ⟨⟨by rw [e134]; exact k0, by rw [e135, pk_un e]; exact k1, k2, k3, k4, k5, k6, k8, k9, k10, k11⟩, ⟨o0, o4, o11, o3, o1, o2, o8, o9⟩, h5⟩
theorem fit_L {C N : tm_M} {n d c t s : Nat} (hD : cD C n d) (h7 : N 127 7 = nI n) (hM : mD N (N 132) 0 n d (C 21) (fun c => C (23 + c))) (hc : c < n) (ht : t ≤ 9) (hs : s ≤ 6) (s1 : C 0 12 = nI s) (s2 : N 127 15 = nI s) (s3 : ∀ i, i < s → N 139 (3 * i) = C 122 i ∧ N 139 (3 * i + 1) = C 123 i ∧ N 139 (3 * i + 2) = C 124 i ∧ ∃ e, e ≤ 30 ∧ C 123 i = nI e) : ∀ (j f1 f2 i : Nat) (v r : LV), i + j = s → j + 1 < f1 → j + 1 < f2 → (∀ p, p < 616 → r p = N 132 p) →
    ∃ (b : Int32) (v' r' : LV), (b = 0 ∨ b = 1) ∧ f_X9_fitsAllSeen_L2 (fun v13 M14 => some (1, M14)) (nI c) (nI t) f1 (nI i) (tm_sr C 125 v) = some (b, tm_sr C 125 v') ∧ f_X10_isSeenSo_L4 (fun v16 v17 M18 => tm_gd (v16 = 0 ∨ v16 = 1) <| some (v16, M18)) (nI c) f2 1 (nI i) (tm_sr (tm_st N 135 c (nI t)) 132 r) = some (b, tm_sr (tm_st N 135 c (nI t)) 132 r') ∧ ∀ p, p < 616 → r' p = N 132 p := by
  have hn := hD.1
  have n127 : ∀ r, tm_sr (tm_st N 135 c (nI t)) 132 r 127 15 = nI s := fun r => by rw [tm_sr_ne _ _ (by decide), tm_stn _ _ _ (by decide)]; exact s2
  have n139 : ∀ r, tm_sr (tm_st N 135 c (nI t)) 132 r 139 = N 139 := fun r => by rw [tm_sr_ne _ _ (by decide), tm_stn _ _ _ (by decide)]
  have c12 : ∀ v, tm_sr C 125 v 0 12 = nI s := fun v => by rw [tm_sr_ne _ _ (by decide)]; exact s1
  have c122 : ∀ v a, a < 125 → tm_sr C 125 v a = C a := fun v a h => tm_sr_ne _ _ (by omega)
  intro j
  induction j with
  | zero =>
    intro f1 f2 i v r hi hf1 hf2 hr
    obtain ⟨f1, rfl⟩ : ∃ g, f1 = g + 1 := ⟨f1 - 1, by omega⟩
    obtain ⟨f2, rfl⟩ : ∃ g, f2 = g + 1 := ⟨f2 - 1, by omega⟩
    have : i = s := by omega
    subst this
    refine ⟨1, v, r, Or.inr rfl, ?_, ?_, hr⟩
    · rw [f_X9_fitsAllSeen_L2, c12, if_pos (nI_le (Nat.le_refl _) (by omega))]
    · rw [f_X10_isSeenSo_L4, n127, if_pos (nI_le (Nat.le_refl _) (by omega)), tm_gd_t (Or.inr rfl)]
  | succ j ih =>
    intro f1 f2 i v r hi hf1 hf2 hr
    obtain ⟨f1, rfl⟩ : ∃ g, f1 = g + 1 := ⟨f1 - 1, by omega⟩
    obtain ⟨f2, rfl⟩ : ∃ g, f2 = g + 1 := ⟨f2 - 1, by omega⟩
    obtain ⟨t1, t2, t3, e, he, t4⟩ := s3 i (by omega)
    have nle : ¬ nI s ≤ nI i := nI_ge (by omega) (by omega)
    have n6 : ¬ (6 : Int32) ≤ nI i := nI_ge (b := 6) (by omega) (by decide)
    have e3 : (3 : Int32) * nI i = nI (3 * i) := pk_mul 3 i
    have hcc : f_X9_fitsAllSeen_L2 (fun v13 M14 => some (1, M14)) (nI c) (nI t) (f1 + 1) (nI i) (tm_sr C 125 v) = if C 122 i = nI c then ((f_X9_fits (tm_sr C 125 v) (nI c) (nI t) (nI e) (C 124 i)).bind fun r10 => if r10.1 = 0 then some (0, r10.2) else f_X9_fitsAllSeen_L2 (fun v13 M14 => some (1, M14)) (nI c) (nI t) f1 (nI (i + 1)) r10.2) else f_X9_fitsAllSeen_L2 (fun v13 M14 => some (1, M14)) (nI c) (nI t) f1 (nI (i + 1)) (tm_sr C 125 v) := by
      rw [f_X9_fitsAllSeen_L2, c12, if_neg nle, if_neg n6, tm_rdN (by omega) (by decide), Option.bind_some, tm_rdN (by omega) (by decide), tm_rdN (by omega) (by decide), Option.bind_some, Option.bind_some, c122 v 122 (by decide), c122 v 123 (by decide), c122 v 124 (by decide), t4, nI_1]
    have hmm : f_X10_isSeenSo_L4 (fun v16 v17 M18 => tm_gd (v16 = 0 ∨ v16 = 1) <| some (v16, M18)) (nI c) (f2 + 1) 1 (nI i) (tm_sr (tm_st N 135 c (nI t)) 132 r) = if C 122 i = nI c then ((f_X10_layTried (tm_sr (tm_st N 135 c (nI t)) 132 r) (nI e)).bind fun M10 => (tm_rd M10 132 672 (623 + nI c)).bind fun x11 => (tm_rd M10 139 18 (nI (3 * i + 2))).bind fun x13 => if x11 = x13 then f_X10_isSeenSo_L4 (fun v16 v17 M18 => tm_gd (v16 = 0 ∨ v16 = 1) <| some (v16, M18)) (nI c) f2 1 (nI (i + 1)) M10 else f_X10_isSeenSo_L4 (fun v16 v17 M18 => tm_gd (v16 = 0 ∨ v16 = 1) <| some (v16, M18)) (nI c) f2 0 (nI (i + 1)) M10) else f_X10_isSeenSo_L4 (fun v16 v17 M18 => tm_gd (v16 = 0 ∨ v16 = 1) <| some (v16, M18)) (nI c) f2 1 (nI (i + 1)) (tm_sr (tm_st N 135 c (nI t)) 132 r) := by
      rw [f_X10_isSeenSo_L4, n127, if_neg nle, if_neg (by decide), e3, show nI (3 * i) + 1 = nI (3 * i + 1) from nI_1 _, show nI (3 * i) + 2 = nI (3 * i + 2) from nI_add _ 2, tm_rdN (by omega) (by decide), Option.bind_some, tm_rdN (by omega) (by decide), Option.bind_some, n139, t1, t2, t4, nI_1]
    rw [hcc, hmm]
    by_cases z : C 122 i = nI c
    · rw [if_pos z, if_pos z]
      obtain ⟨v1, q1⟩ := f_fits (C := tm_sr C 125 v) (c := c) (t := t) (e := e) (y := C 124 i) (cD_sr (by decide) hD) hc ht he
      rw [c122 v 21 (by decide), c122 v (23 + c) (by omega), tm_sr_sr] at q1
      obtain ⟨r1, k1, k2, k3⟩ := m_lay2 (m := e) (r := r) hn (by rw [tm_stn _ _ _ (by decide)]; exact h7) hD.2.1 (by omega) hD.2.2.2.2.1 (mD_temper hn hc ht rfl hM) (fun p hp => by rw [tm_stn _ _ _ (by decide)]; exact hr p hp)
      have k3' : ∀ p, p < 616 → r1 p = N 132 p := fun p hp => by rw [k3 p hp, tm_stn _ _ _ (by decide)]
      have ks : r1 (623 + c) = itV (C 21) d (upd (C (23 + c)) 1 (nI t)) e 2 := by
        have h : r1 (616 + 7 + c) = itV (C 21) d (if c = c then upd (C (23 + c)) 1 (nI t) else C (23 + c)) e 2 := (k2.2.2.2 c hc).1.2.2.1
        rw [if_pos rfl] at h
        exact h
      rw [q1, Option.bind_some, k1, Option.bind_some, show (623 : Int32) + nI c = nI (623 + c) from nI_add 623 c, tm_rdN (by omega) (by decide), Option.bind_some, tm_rdN (by omega) (by decide), Option.bind_some, tm_sr_at, n139, t3, ks]
      dsimp only
      by_cases z2 : itV (C 21) d (upd (C (23 + c)) 1 (nI t)) e 2 = C 124 i
      · rw [if_pos z2, if_neg (by decide), if_pos z2]
        exact ih f1 f2 (i + 1) v1 r1 (by omega) (by omega) (by omega) k3'
      · rw [if_neg z2, if_pos rfl, if_neg z2]
        refine ⟨0, v1, r1, Or.inl rfl, rfl, ?_, k3'⟩
        obtain ⟨f2, rfl⟩ : ∃ g, f2 = g + 1 := ⟨f2 - 1, by omega⟩
        rw [f_X10_isSeenSo_L4, n127]
        by_cases z3 : nI s ≤ nI (i + 1)
        · rw [if_pos z3, tm_gd_t (Or.inl rfl)]
        · rw [if_neg z3, if_pos rfl, tm_gd_t (Or.inl rfl)]
    · rw [if_neg z, if_neg z]
      exact ih f1 f2 (i + 1) v r (by omega) (by omega) (by omega) hr
theorem st_sr_same {N : tm_M} {c : Nat} {x y : Int32} {r : LV} (hc : c < 6) : tm_wr (tm_sr (tm_st N 135 c x) 132 r) 135 6 (nI c) y = some (tm_sr (tm_st N 135 c y) 132 r) := by
  rw [tm_wrN hc (by decide), sr_st (by decide), tm_st_sr, tm_st_sr, tm_sr_sr, tm_sr_at, tm_st_sr]
  congr 2
  congr 1
  funext k
  unfold upd
  split <;> rfl
theorem tem_L {C N : tm_M} {n d c s : Nat} {own : Int32} (hD : cD C n d) (h7 : N 127 7 = nI n) (hM : mD N (N 132) 0 n d (C 21) (fun c => C (23 + c))) (hc : c < n) (hs : s ≤ 6) (s1 : C 0 12 = nI s) (s2 : N 127 15 = nI s) (s3 : ∀ i, i < s → N 139 (3 * i) = C 122 i ∧ N 139 (3 * i + 1) = C 123 i ∧ N 139 (3 * i + 2) = C 124 i ∧ ∃ e, e ≤ 30 ∧ C 123 i = nI e) (how : N 135 c = own) : ∀ (j f1 f2 t : Nat) (g x : Int32) (v r : LV), t + j = 10 → j < f1 → j < f2 → (∀ p, p < 616 → r p = N 132 p) →
    ∃ (b : Int32) (v' r' : LV), f_X9_tempers_L15 (fun v9 v10 M11 => some (v9, M11)) (nI c) f1 g (nI t) (tm_sr C 125 v) = some (b, tm_sr C 125 v') ∧ f_X10_tempers_L23 (fun v14 v15 M16 => (tm_wr M16 135 6 (nI c) own).bind fun M17 => some (v14, M17)) (nI c) own f2 g (nI t) (tm_sr (tm_st N 135 c x) 132 r) = some (b, tm_sr N 132 r') ∧ ∀ p, p < 616 → r' p = N 132 p := by
  have hn := hD.1
  have own_eq : tm_st N 135 c own = N := by rw [tm_st_sr, ← how, tm_up_same, tm_sr_self]
  intro j
  induction j with
  | zero =>
    intro f1 f2 t g x v r hi hf1 hf2 hr
    obtain ⟨f1, rfl⟩ : ∃ g, f1 = g + 1 := ⟨f1 - 1, by omega⟩
    obtain ⟨f2, rfl⟩ : ∃ g, f2 = g + 1 := ⟨f2 - 1, by omega⟩
    have : t = 10 := by omega
    subst this
    refine ⟨g, v, r, ?_, ?_, hr⟩
    · rw [f_X9_tempers_L15, if_pos (by decide)]
    · rw [f_X10_tempers_L23, if_pos (by decide), st_sr_same (by omega), Option.bind_some, own_eq]
  | succ j ih =>
    intro f1 f2 t g x v r hi hf1 hf2 hr
    obtain ⟨f1, rfl⟩ : ∃ g, f1 = g + 1 := ⟨f1 - 1, by omega⟩
    obtain ⟨f2, rfl⟩ : ∃ g, f2 = g + 1 := ⟨f2 - 1, by omega⟩
    obtain ⟨b, v1, r1, hb, q1, q2, q3⟩ := fit_L hD h7 hM hc (show t ≤ 9 by omega) hs s1 s2 s3 s 1000 1000 0 v r (by omega) (by omega) (by omega) hr
    have e1 : f_X9_fitsAllSeen (tm_sr C 125 v) (nI c) (nI t) = some (b, tm_sr C 125 v1) := q1
    have e2 : f_X10_isSeenSo (tm_sr (tm_st N 135 c (nI t)) 132 r) (nI c) = some (b, tm_sr (tm_st N 135 c (nI t)) 132 r1) := q2
    rw [f_X9_tempers_L15, if_neg (show ¬ (9 : Int32) < nI t by rw [show (9 : Int32) = nI 9 from rfl, nI_ltI (by omega) (by omega)]; omega), e1, Option.bind_some, f_X10_tempers_L23, if_neg (show ¬ (10 : Int32) ≤ nI t from nI_ge (b := 10) (by omega) (by decide)), st_sr_same (by omega)]
    simp only [Option.bind_some, e2, nI_1]
    rcases hb with rfl | rfl
    · rw [if_pos rfl, if_pos rfl, i_or0]
      exact ih f1 f2 (t + 1) g (nI t) v1 r1 (by omega) (by omega) (by omega) q3
    · rw [if_neg (by decide), if_neg (by decide)]
      exact ih f1 f2 (t + 1) _ (nI t) v1 r1 (by omega) (by omega) (by omega) q3
theorem o_tempers (x : Int32) : oOK (fun C => f_X9_tempers C x) (fun N => f_X10_tempers N x) := by
  intro C N n hR
  rcases unk x hR with ⟨c, hc, rfl, u1, u2⟩ | ⟨u1, u2⟩
  · obtain ⟨d, hD, h7, hM⟩ := hR.cD
    obtain ⟨s, hs, s1, s2, s3⟩ := hR.2.2.2.2.2.2.1
    have hn := hD.1
    obtain ⟨b, v, r, q1, q2, q3⟩ := tem_L hD h7 hM hc hs s1 s2 s3 rfl 9 1000 1000 1 0 (N 135 c) (C 125) (N 132) (by omega) (by omega) (by omega) (fun _ _ => rfl)
    have e0 : tm_sr (tm_st N 135 c (N 135 c)) 132 (N 132) = N := by rw [tm_st_sr, tm_up_same, tm_sr_self, tm_sr_self]
    rw [e0] at q2
    rw [tm_sr_self] at q1
    refine oo_tri hR b (v := v) ?_ ?_ q3
    · simp only [f_X9_tempers, u1, Option.bind_some, if_true]
      exact q1
    · simp only [f_X10_tempers, u2, Option.bind_some]
      rw [if_neg (by decide), tm_rdN (by omega) (by decide), Option.bind_some]
      exact q2
  · refine oo_same hR (-2) ?_ ?_
    · simp only [f_X9_tempers, u1, Option.bind_some]
      rw [if_neg (by decide)]
    · simp only [f_X10_tempers, u2, Option.bind_some, if_true]
