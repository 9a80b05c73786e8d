/-! LEVEL: what a premium would have brought -/
def lE (P : Int32) (v a b : LV) : Prop := (∀ j, j < 12 → j ≠ 8 → b j = a j) ∧ b 8 = v 8 + ((a 6 - v 6 - (a 7 - v 7)) * P + (a 7 - v 7) * (P / 2))
theorem lE_0 (P : Int32) (v : LV) : lE P v v v := by
  refine ⟨fun _ _ _ => rfl, ?_⟩
  grind
theorem lE_up {P : Int32} {v a b : LV} (h : lE P v a b) (k : Nat) (x : Int32) (h6 : k ≠ 6) (h7 : k ≠ 7) (h8 : k ≠ 8) : lE P v (upd a k x) (upd b k x) := by
  obtain ⟨h1, h2⟩ := h
  refine ⟨fun j hj hj8 => ?_, ?_⟩
  · by_cases e : j = k
    · subst e
      rw [pk_us, pk_us]
    · rw [pk_un e, pk_un e]
      exact h1 j hj hj8
  · rw [pk_un (fun e => h8 e.symm), pk_un (fun e => h6 e.symm), pk_un (fun e => h7 e.symm)]
    exact h2
theorem lE_pass {T v a b : LV} {P : Int32} {d : Nat} (h : lE P v a b) : lE P v (sPass T d a) (sPass (upd T 2 P) d b) := by
  have hg : sGain d b = sGain d a := by
    unfold sGain
    rw [h.1 0 (by decide) (by decide), h.1 11 (by decide) (by decide), h.1 1 (by decide) (by decide), h.1 3 (by decide) (by decide)]
  have h1 : lE P v (sDay1 d a) (sDay1 d b) := by
    unfold sDay1 sMore
    rw [hg, h.1 2 (by decide) (by decide)]
    exact lE_up (lE_up h 2 _ (by decide) (by decide) (by decide)) 11 0 (by decide) (by decide) (by decide)
  have t0 : upd T 2 P 0 = T 0 := pk_un (by decide)
  have t1 : upd T 2 P 1 = T 1 := pk_un (by decide)
  have t2 : upd T 2 P 2 = P := pk_us
  have t3 : upd T 2 P 3 = T 3 := pk_un (by decide)
  have t4 : upd T 2 P 4 = T 4 := pk_un (by decide)
  have t5 : upd T 2 P 5 = T 5 := pk_un (by decide)
  unfold sPass
  rw [t3, t4, h1.1 2 (by decide) (by decide), h.1 0 (by decide) (by decide)]
  generalize sDay1 d a = x at h1 ⊢
  generalize sDay1 d b = y at h1 ⊢
  split
  · split
    · exact lE_up h1 3 0 (by decide) (by decide) (by decide)
    · split
      · unfold sSulk
        rw [h1.1 3 (by decide) (by decide)]
        split
        · exact lE_up h1 3 _ (by decide) (by decide) (by decide)
        · exact lE_up (lE_up h1 3 _ (by decide) (by decide) (by decide)) 4 1 (by decide) (by decide) (by decide)
      · have hh : sHalf d y = sHalf d x := by
          unfold sHalf
          rw [h1.1 10 (by decide) (by decide)]
        unfold sTiff
        rw [hh, t2, t5, h1.1 2 (by decide) (by decide), h1.1 6 (by decide) (by decide), h1.1 7 (by decide) (by decide)]
        refine lE_up (lE_up ?_ 11 _ (by decide) (by decide) (by decide)) 2 _ (by decide) (by decide) (by decide)
        obtain ⟨g1, g2⟩ := h1
        by_cases z : sHalf d x = true
        · simp only [if_pos z]
          refine ⟨fun j hj hj8 => ?_, ?_⟩
          · unfold upd
            split
            · rfl
            · skip
              split
              · rfl
              · exact g1 j hj hj8
          · show y 8 + P / 2 = v 8 + (((x 6 + 1) - v 6 - ((x 7 + 1) - v 7)) * P + ((x 7 + 1) - v 7) * (P / 2))
            rw [g2]
            generalize P / 2 = Q
            grind
        · simp only [if_neg z]
          refine ⟨fun j hj hj8 => ?_, ?_⟩
          · unfold upd
            split
            · rfl
            · skip
              exact g1 j hj hj8
          · show y 8 + P = v 8 + (((x 6 + 1) - v 6 - (x 7 - v 7)) * P + (x 7 - v 7) * (P / 2))
            rw [g2]
            generalize P / 2 = Q
            grind
  · have hc : sClaim (upd T 2 P) y = sClaim T x := by
      unfold sClaim
      rw [t0, t1, h1.1 2 (by decide) (by decide)]
    unfold sBreak
    rw [hc, h1.1 4 (by decide) (by decide), h1.1 0 (by decide) (by decide), h1.1 9 (by decide) (by decide), h1.1 5 (by decide) (by decide)]
    have h9 : lE P v (if x 4 = 0 ∧ (x 0 = 9 → d % 7 = 6) then upd x 9 (x 9 + sClaim T x) else x) (if x 4 = 0 ∧ (x 0 = 9 → d % 7 = 6) then upd y 9 (x 9 + sClaim T x) else y) := by
      split
      · exact lE_up h1 9 _ (by decide) (by decide) (by decide)
      · exact h1
    have e5 : (if x 4 = 0 ∧ (x 0 = 9 → d % 7 = 6) then upd x 9 (x 9 + sClaim T x) else x) 5 = x 5 := by
      split
      · exact pk_un (by decide)
      · rfl
    exact lE_up (lE_up (lE_up (lE_up h9 5 _ (by decide) (by decide) (by decide)) 10 _ (by decide) (by decide) (by decide)) 2 0 (by decide) (by decide) (by decide)) 3 0 (by decide) (by decide) (by decide)
theorem lE_it {T v : LV} {P : Int32} {d : Nat} : ∀ k, lE P v (itV T d v k) (itV (upd T 2 P) d v k)
  | 0 => lE_0 P v
  | k + 1 => lE_pass (lE_it k)
/-- the class's three sums -/
theorem lev_c {n d m : Nat} {x : Int32} (hm : m ≤ 60) (hx : x = nI m) {k : Int32 → Int32 → Int32 → Int32 → tm_M → Option (Int32 × tm_M)} {T : LV} {U : Nat → LV} : ∀ (j f i : Nat) (C : tm_M), i + j = n → j < f → cD C n d → C 21 = T → (∀ c, c < n → C (23 + c) = U c) →
    ∃ v : LV, f_X9_level_L23 k x f (sumI (fun c => itV T d (U c) m 6 - U c 6 - (itV T d (U c) m 7 - U c 7)) i) (sumI (fun c => itV T d (U c) m 7 - U c 7) i) (sumI (fun c => itV T d (U c) m 9 - U c 9) i) (nI i) C = k (sumI (fun c => itV T d (U c) m 6 - U c 6 - (itV T d (U c) m 7 - U c 7)) n) (sumI (fun c => itV T d (U c) m 7 - U c 7) n) (sumI (fun c => itV T d (U c) m 9 - U c 9) n) (nI n) (tm_sr C 125 v) := by
  intro j
  induction j with
  | zero =>
    intro f i C hi hf hD hT hU
    obtain ⟨f, rfl⟩ : ∃ g, f = g + 1 := ⟨f - 1, by omega⟩
    have : i = n := by omega
    subst this
    have hn := hD.1
    exact ⟨C 125, by rw [f_X9_level_L23, hD.2.2.1, if_pos (nI_le (Nat.le_refl _) (by omega)), tm_sr_self]⟩
  | succ j ih =>
    intro f i C hi hf hD hT hU
    obtain ⟨f, rfl⟩ : ∃ g, f = g + 1 := ⟨f - 1, by omega⟩
    have hn := hD.1
    obtain ⟨v, e1, e2⟩ := c_try hD (show i < n by omega) hm
    obtain ⟨v2, e3⟩ := ih f (i + 1) (tm_sr C 125 v) (by omega) (by omega) (cD_sr (by decide) hD) (by rw [tm_sr_ne _ _ (by decide)]; exact hT) (fun c hc => by rw [tm_sr_ne _ _ (by omega)]; exact hU c hc)
    refine ⟨v2, ?_⟩
    rw [tm_sr_sr] at e3
    rw [f_X9_level_L23, hD.2.2.1, if_neg (nI_ge (by omega) (by omega)), if_neg (show ¬ (6 : Int32) ≤ nI i from nI_ge (b := 6) (by omega) (by decide)), rd_22 (by omega), Option.bind_some, hx, e1, Option.bind_some, tm_gd_t (yS_20.2.2.2 i (by omega)), Option.bind_some, Option.bind_some, Option.bind_some, Option.bind_some, nI_1, tm_sr_at, tm_sr_ne _ _ (show 23 + i ≠ 125 by omega), e2 6 (by decide), e2 7 (by decide), e2 9 (by decide), hT, hU i (by omega)]
    rw [hx] at e3
    exact e3
theorem m_ldays {N : tm_M} {n d m : Nat} {y : Int32} {T : LV} {V : Nat → LV} {k : Int32 → tm_M → Option (Int32 × tm_M)} (hn : n ≤ 6) (h7 : N 127 7 = nI n) (hd : d ≤ 999) (hm : m ≤ 60) (hT : tOK T) : ∀ (j f i : Nat) (r : LV), i + j = m → j < f → mD N r 616 n (d + i) T (fun c => itV T d (V c) i) → (∀ p, p < 616 → r p = N 132 p) →
    ∃ r' : LV, f_X10_level_L37 k (nI m) y f (nI i) (tm_sr N 132 r) = k (nI m) (tm_sr N 132 r') ∧ mD N r' 616 n (d + m) T (fun c => itV T d (V c) m) ∧ ∀ p, p < 616 → r' p = N 132 p := by
  intro j
  induction j with
  | zero =>
    intro f i r hi hf hD hp
    obtain ⟨f, rfl⟩ : ∃ g, f = g + 1 := ⟨f - 1, by omega⟩
    have : i = m := by omega
    subst this
    exact ⟨r, by rw [f_X10_level_L37, if_pos (nI_le (Nat.le_refl _) (by omega))], hD, hp⟩
  | succ j ih =>
    intro f i r hi hf hD hp
    obtain ⟨f, rfl⟩ : ∃ g, f = g + 1 := ⟨f - 1, by omega⟩
    obtain ⟨r1, fl, g1, g2, g3, g4, g5⟩ := m_pass (M := N) (b := 616) (by decide) hn h7 (by omega) hT hD
    rw [f_X10_level_L37, if_neg (nI_ge (by omega) (by omega)), show (616 : Int32) = nI 616 from rfl, g1, Option.bind_some, nI_1]
    exact ih f (i + 1) r1 (by omega) (by omega) g2 (fun p h => by rw [g5 p (by omega)]; exact hp p h)
theorem lev_sum (W H B V : Nat → Int32) (P Q : Int32) (n : Nat) (h : ∀ i, i < n → B i = V i + (W i * P + H i * Q)) : sumI W n * P + sumI H n * Q = sumI B n - sumI V n := by
  induction n with
  | zero =>
    show (0 : Int32) * P + 0 * Q = 0 - 0
    grind
  | succ n ih =>
    have h1 := ih (fun i hi => h i (by omega))
    have h2 := h n (by omega)
    rw [sumI, sumI, sumI, sumI, h2]
    grind
theorem lev_lt {a b c e : Nat} (ha : a < 2 ^ 20) (hb : b < 2 ^ 20) (hc : c < 2 ^ 20) (he : e < 2 ^ 20) : (nI a - nI b < nI c - nI e) ↔ (nI a - nI c < nI b - nI e) := by
  rw [Int32.lt_iff_toInt_lt, Int32.lt_iff_toInt_lt, pk_sub_toInt (by omega) (by omega), pk_sub_toInt (by omega) (by omega), pk_sub_toInt (by omega) (by omega), pk_sub_toInt (by omega) (by omega)]
  omega
theorem lev_L {N M0 : tm_M} {n d m : Nat} {x y : Int32} {T : LV} {U : Nat → LV} (hn : n ≤ 6) (hd : d ≤ 999) (hm : m ≤ 60) (hy : y = nI m) (hT : tOK T) (h7 : N 127 7 = nI n) (hM : mD N (N 132) 0 n d T U) : ∀ (j f1 f2 p : Nat) (r : LV), p + j = 51 → j < f1 → j < f2 → (∀ p, p < 616 → r p = N 132 p) →
    ∃ (z : Int32) (r' : LV), f_X9_level_L127 (fun v23 => some ((-1), M0)) M0 x (sumI (fun c => itV T d (U c) m 6 - U c 6 - (itV T d (U c) m 7 - U c 7)) n) (sumI (fun c => itV T d (U c) m 7 - U c 7) n) (sumI (fun c => itV T d (U c) m 9 - U c 9) n) f1 (nI p) = some (z, M0) ∧ f_X10_level_L15 (fun v20 M21 => some ((-1), M21)) y f2 (nI p) (tm_sr N 132 r) = some (z, tm_sr N 132 r') ∧ ∀ p, p < 616 → r' p = N 132 p := by
  intro j
  induction j with
  | zero =>
    intro f1 f2 p r hi hf1 hf2 hr
    obtain ⟨f1, rfl⟩ : ∃ g, f1 = g + 1 := ⟨f1 - 1, by omega⟩
    obtain ⟨f2, rfl⟩ : ∃ g, f2 = g + 1 := ⟨f2 - 1, by omega⟩
    have : p = 51 := by omega
    subst this
    exact ⟨-1, r, by rw [f_X9_level_L127, if_pos (by decide)], by rw [f_X10_level_L15, if_pos (by decide)], hr⟩
  | succ j ih =>
    intro f1 f2 p r hi hf1 hf2 hr
    obtain ⟨f1, rfl⟩ : ∃ g, f1 = g + 1 := ⟨f1 - 1, by omega⟩
    obtain ⟨f2, rfl⟩ : ∃ g, f2 = g + 1 := ⟨f2 - 1, by omega⟩
    obtain ⟨r0, k1, k2, k3⟩ := m_lay2 (m := 0) hn h7 hd (by decide) hT hM hr
    have hT2 : tOK (upd T 2 (nI p)) := tOK_set (b := 50) hT (by omega) (by decide) (by decide) (by decide) (by decide)
    have kD : mD N (upd r0 619 (nI p)) 616 n (d + 0) (upd T 2 (nI p)) (fun c => itV (upd T 2 (nI p)) d (U c) 0) := by
      obtain ⟨a1, a2, ⟨w, hw, a3⟩, a4⟩ := k2
      refine ⟨by rw [pk_un (by decide)]; exact a1, fun i hi => ?_, ⟨w, hw, by rw [pk_un (by decide)]; exact a3⟩, fun c hc => ?_⟩
      · by_cases e : i = 2
        · subst e
          rw [show 616 + 1 + 2 = 619 from rfl, pk_us, pk_us]
        · rw [pk_un (by omega), pk_un e]
          exact a2 i hi
      · obtain ⟨v1, v2, v3⟩ := a4 c hc
        refine ⟨vR_ne (fun i hi => pk_un (by omega)) (by rw [pk_un (by omega)]) v1, v2, ?_⟩
        unfold tfOK
        rw [pk_un (by omega)]
        exact v3
    obtain ⟨r1, e1, e2, e3⟩ := m_ldays (y := nI p) (V := U) (k := fun v13 M14 => (f_X10_balanceOf M14 616).bind fun r15 => (f_X10_balanceOf M14 0).bind fun r17 => if r15 < r17 then f_X10_level_L15 (fun v20 M21 => some ((-1), M21)) (nI m) f2 (nI p + 1) M14 else some (nI p, M14)) hn h7 hd hm hT2 m 1000 0 (upd r0 619 (nI p)) (by omega) (by omega) kD (fun q hq => by rw [pk_un (by omega)]; exact k3 q hq)
    have hM0 : mD N r1 0 n d T U := mD_mv hn (fun _ _ => rfl) (fun _ _ => rfl) (fun i hi => e3 _ (by omega)) (fun _ _ => rfl) (fun c hc => lEq.rf _) hM
    have b1 := m_bal (b := 616) (by decide) hn h7 e2
    have b0 := m_bal (b := 0) (by decide) hn h7 hM0
    -- the numbers
    have lE9 : ∀ c, itV (upd T 2 (nI p)) d (U c) m 9 = itV T d (U c) m 9 := fun c => (lE_it m).1 9 (by decide) (by decide)
    have lE8 : ∀ c, itV (upd T 2 (nI p)) d (U c) m 8 = U c 8 + ((itV T d (U c) m 6 - U c 6 - (itV T d (U c) m 7 - U c 7)) * nI p + (itV T d (U c) m 7 - U c 7) * (nI p / 2)) := fun c => (lE_it m).2
    obtain ⟨sB, hsB, eB⟩ := sumI_nI (f := fun c => itV (upd T 2 (nI p)) d (U c) m 8) (B := 110000) (n := n) (fun c hc => by
      obtain ⟨a, ha, ea⟩ := (itV_ok hT2 (hM.2.2.2 c hc).2.1 m (by omega)).2.2.2.2.2.2.1
      exact ⟨a, by omega, ea⟩)
    obtain ⟨sA, hsA, eA⟩ := sumI_nI (f := fun c => itV T d (U c) m 9) (B := 110000) (n := n) (fun c hc => by
      obtain ⟨a, ha, ea⟩ := (itV_ok hT (hM.2.2.2 c hc).2.1 m (by omega)).2.2.2.2.2.2.2
      exact ⟨a, by omega, ea⟩)
    obtain ⟨sV, hsV, eV⟩ := sumI_nI (f := fun c => U c 8) (B := 110000) (n := n) (fun c hc => by
      obtain ⟨a, ha, ea⟩ := (hM.2.2.2 c hc).2.1.2.2.2.2.2.2.1
      exact ⟨a, by omega, ea⟩)
    obtain ⟨sW, hsW, eW⟩ := sumI_nI (f := fun c => U c 9) (B := 110000) (n := n) (fun c hc => by
      obtain ⟨a, ha, ea⟩ := (hM.2.2.2 c hc).2.1.2.2.2.2.2.2.2
      exact ⟨a, by omega, ea⟩)
    have hn6 : n * 110000 ≤ 6 * 110000 := Nat.mul_le_mul_right _ hn
    have ecl : sumI (fun c => itV T d (U c) m 6 - U c 6 - (itV T d (U c) m 7 - U c 7)) n * nI p + sumI (fun c => itV T d (U c) m 7 - U c 7) n * (nI p / 2) = nI sB - nI sV := by
      rw [lev_sum _ _ (fun c => itV (upd T 2 (nI p)) d (U c) m 8) (fun c => U c 8) (nI p) (nI p / 2) n (fun i _ => lE8 i), eB, eV]
    have ecw : sumI (fun c => itV T d (U c) m 9 - U c 9) n = nI sA - nI sW := by rw [sumI_sub, eA, eW]
    rw [sumI_c (g := fun c => itV T d (U c) m 9) (fun c _ => lE9 c), eB, eA] at b1
    rw [eV, eW] at b0
    have hiff := lev_lt (a := sB) (b := sV) (c := sA) (e := sW) (by omega) (by omega) (by omega) (by omega)
    have hm2 : f_X10_level_L15 (fun v20 M21 => some ((-1), M21)) y (f2 + 1) (nI p) (tm_sr N 132 r) = if nI sB - nI sA < nI sV - nI sW then f_X10_level_L15 (fun v20 M21 => some ((-1), M21)) (nI m) f2 (nI p + 1) (tm_sr N 132 r1) else some (nI p, tm_sr N 132 r1) := by
      rw [f_X10_level_L15, if_neg (show ¬ (51 : Int32) ≤ nI p from nI_ge (b := 51) (by omega) (by decide)), show (0 : Int32) = nI 0 from rfl, k1, Option.bind_some, show (619 : Int32) = nI 619 from rfl, tm_wrN (by decide) (by decide), Option.bind_some, tm_st_sr, tm_sr_at, tm_sr_sr, hy]
      refine Eq.trans e1 ?_
      show ((f_X10_balanceOf (tm_sr N 132 r1) (nI 616)).bind fun r15 => (f_X10_balanceOf (tm_sr N 132 r1) (nI 0)).bind fun r17 => _) = _
      rw [b1, Option.bind_some, b0, Option.bind_some]
    rw [hm2, f_X9_level_L127, if_neg (show ¬ (50 : Int32) < nI p from nI_nlt (a := 50) (b := p) |> fun _ => by rw [show (50 : Int32) = nI 50 from rfl, nI_ltI (by omega) (by omega)]; omega), ecl, ecw, nI_1]
    by_cases z : nI sB - nI sV < nI sA - nI sW
    · rw [if_pos z, if_pos (hiff.mp z)]
      obtain ⟨z1, r2, q1, q2, q3⟩ := ih f1 f2 (p + 1) r1 (by omega) (by omega) (by omega) e3
      rw [ecw, hy] at *
      exact ⟨z1, r2, q1, q2, q3⟩
    · rw [if_neg z, if_neg (fun h => z (hiff.mpr h))]
      exact ⟨nI p, r1, rfl, rfl, e3⟩
theorem o_level (x : Int32) : oOK (fun C => f_X9_level C x) (fun N => f_X10_level N x) := by
  intro C N n hR
  rcases in_out x (a := 1) (n := 60) (A := 1) (N := 60) rfl rfl (by decide) (by decide) with ⟨m, -, hm, rfl, e1, e2⟩ | ⟨e1, e2⟩
  · obtain ⟨d, hD, h7, hM⟩ := hR.cD
    have hn := hD.1
    have hd := hD.2.1
    have hT := hD.2.2.2.2.1
    obtain ⟨v, g1⟩ := lev_c (x := nI m) (T := C 21) (U := fun c => C (23 + c)) hm rfl (k := fun v16 v17 v18 v19 M20 => f_X9_level_L127 (fun v23 => some ((-1), M20)) M20 (nI m) v16 v17 v18 1000 0) n 1000 0 C (by omega) (by omega) hD rfl (fun _ _ => rfl)
    obtain ⟨z, r', k1, k2, k3⟩ := lev_L (M0 := tm_sr C 125 v) (x := nI m) (y := nI m) hn hd hm rfl hT h7 hM 51 1000 1000 0 (N 132) (by omega) (by omega) (by omega) (fun _ _ => rfl)
    rw [tm_sr_self] at k2
    refine oo_tri hR z (v := v) ?_ ?_ k3
    · simp only [f_X9_level, e1, Option.bind_some, if_true]
      exact Eq.trans g1 k1
    · simp only [f_X10_level, e2, Option.bind_some]
      rw [if_neg (by decide)]
      exact k2
  · refine oo_same hR (-3) ?_ ?_
    · simp only [f_X9_level, e1, Option.bind_some]
      rw [if_neg (by decide)]
    · simp only [f_X10_level, e2, Option.bind_some, if_true]
