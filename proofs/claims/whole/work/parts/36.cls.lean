/-! THE CLASS: vectors of twelve numbers; days on one couple; a year's copy; a day of a year -/
def lEq (v w : LV) : Prop := ∀ k, k < 12 → v k = w k
theorem lEq.rf (v : LV) : lEq v v := fun _ _ => rfl
theorem lEq.sy {v w : LV} (h : lEq v w) : lEq w v := fun k hk => (h k hk).symm
theorem lEq.tr {u v w : LV} (h : lEq u v) (h2 : lEq v w) : lEq u w := fun k hk => (h k hk).trans (h2 k hk)
theorem lEq.up {v w : LV} (h : lEq v w) (k : Nat) {x y : Int32} (e : x = y) : lEq (upd v k x) (upd w k y) := by
  intro j hj
  unfold upd
  split
  · exact e
  · exact h j hj
theorem sDay1_c {d : Nat} {v w : LV} (h : lEq v w) : lEq (sDay1 d v) (sDay1 d w) := by
  have hg : sGain d v = sGain d w := by
    unfold sGain
    rw [h 0 (by decide), h 11 (by decide), h 1 (by decide), h 3 (by decide)]
  unfold sDay1 sMore
  refine (h.up 2 ?_).up 11 rfl
  rw [hg, h 2 (by decide)]
theorem sFlag_c {T : LV} {d : Nat} {v w : LV} (h : lEq v w) : sFlag T d v = sFlag T d w := by
  unfold sFlag
  rw [sDay1_c h 2 (by decide)]
theorem sPass_c {T : LV} {d : Nat} {v w : LV} (h : lEq v w) : lEq (sPass T d v) (sPass T d w) := by
  have h1 := sDay1_c (d := d) h
  unfold sPass
  rw [h1 2 (by decide), h 0 (by decide)]
  generalize sDay1 d v = a at h1 ⊢
  generalize sDay1 d w = b at h1 ⊢
  split
  · split
    · exact h1.up 3 rfl
    · split
      · unfold sSulk
        rw [h1 3 (by decide)]
        split
        · exact h1.up 3 rfl
        · exact (h1.up 3 rfl).up 4 rfl
      · have hh : sHalf d a = sHalf d b := by
          unfold sHalf
          rw [h1 10 (by decide)]
        unfold sTiff
        rw [hh, h1 2 (by decide), h1 8 (by decide), h1 6 (by decide), h1 7 (by decide)]
        refine (((lEq.up ?_ 8 rfl).up 6 rfl).up 11 rfl).up 2 rfl
        split
        · exact h1.up 7 rfl
        · exact h1
  · have hc : sClaim T a = sClaim T b := by
      unfold sClaim
      rw [h1 2 (by decide)]
    unfold sBreak
    rw [hc, h1 4 (by decide), h1 0 (by decide), h1 9 (by decide), h1 5 (by decide)]
    refine (((lEq.up ?_ 5 rfl).up 10 rfl).up 2 rfl).up 3 rfl
    split
    · exact h1.up 9 rfl
    · exact h1
/-- days on end -/
def itV (T : LV) (d : Nat) (v : LV) : Nat → LV
  | 0 => v
  | k + 1 => sPass T (d + k) (itV T d v k)
theorem itV_c {T : LV} {d : Nat} {v w : LV} (h : lEq v w) : ∀ k, lEq (itV T d v k) (itV T d w k)
  | 0 => h
  | k + 1 => sPass_c (itV_c h k)
theorem vOK_c {d : Nat} {v w : LV} (h : lEq v w) (hv : vOK d v) : vOK d w := by
  unfold vOK at hv ⊢
  rw [← h 0 (by decide), ← h 1 (by decide), ← h 2 (by decide), ← h 3 (by decide), ← h 4 (by decide), ← h 8 (by decide), ← h 9 (by decide), ← h 11 (by decide)]
  exact hv
theorem itV_ok {T : LV} {d : Nat} {v : LV} (hT : tOK T) (hv : vOK d v) : ∀ k, d + k ≤ 1100 → vOK (d + k) (itV T d v k)
  | 0, _ => hv
  | k + 1, h => v_pass (d := d + k) (by omega) hT (itV_ok hT hv k (by omega))
def lCopy (a b : LV) : LV := fun k => if k < 12 then b k else a k
theorem lCopy_eq (a b : LV) : lEq (lCopy a b) b := fun k hk => if_pos hk
theorem sKind_nI {x : Int32} (h : sKind x) : nI x.toNatClampNeg = x ∧ 0 < x.toNatClampNeg ∧ x.toNatClampNeg < 143 := by
  rcases h with rfl | rfl | rfl | rfl <;> decide
theorem c_copyL {M : tm_M} {o1 o2 : Nat} (h1 : tm_shp o1 = 0) (h2 : tm_shp o2 = 0) (hne : o2 ≠ o1) (hk : sKind (M o2 0)) (h4 : M o2 4 = 0 ∨ M o2 4 = 1) (h11 : M o2 11 = 0 ∨ M o2 11 = 1) : f_X1_copy M o1 o2 = some (tm_sr M o1 (lCopy (M o1) (M o2))) := by
  obtain ⟨e0, e1, e2⟩ := sKind_nI hk
  unfold f_X1_copy
  rw [tm_gd_t h1, tm_gd_t h2, tm_gd_t (s_kn hk).1, tm_gd_t ⟨e1, e2⟩, e0]
  simp only [tm_st_sr, tm_sr_sr, tm_sr_at, tm_sr_ne _ _ hne, Option.bind_some, tm_gd_t h4, tm_gd_t h11]
  congr 2
  funext k
  rcases Nat.lt_or_ge k 12 with h | h
  · rw [show lCopy (M o1) (M o2) k = M o2 k from if_pos h]
    rcases (show k = 0 ∨ k = 1 ∨ k = 2 ∨ k = 3 ∨ k = 4 ∨ k = 5 ∨ k = 6 ∨ k = 7 ∨ k = 8 ∨ k = 9 ∨ k = 10 ∨ k = 11 by omega) with rfl | rfl | rfl | rfl | rfl | rfl | rfl | rfl | rfl | rfl | rfl | rfl <;> rfl
  · rw [show lCopy (M o1) (M o2) k = M o1 k from if_neg (by omega)]
    simp only [upd]
    rw [if_neg (by omega), if_neg (by omega), if_neg (by omega), if_neg (by omega), if_neg (by omega), if_neg (by omega), if_neg (by omega), if_neg (by omega), if_neg (by omega), if_neg (by omega), if_neg (by omega), if_neg (by omega)]
/-- a year lies there -/
def yS (y : Nat) : Prop := tm_shp y = 7 ∧ tm_shp (y + 1) = 5 ∧ tm_shp (y + 2) = 13 ∧ ∀ i, i < 6 → tm_shp (y + 3 + i) = 0
theorem yS_11 : yS 11 := by unfold yS; decide
theorem yS_20 : yS 20 := by unfold yS; decide
theorem yS_k {k : Nat} (h : k < 2) : yS (30 + 9 * k) := by
  rcases (show k = 0 ∨ k = 1 by omega) with rfl | rfl <;> (unfold yS; decide)
theorem yS_p {k : Nat} (h : k < 8) : yS (50 + 9 * k) := by
  rcases (show k = 0 ∨ k = 1 ∨ k = 2 ∨ k = 3 ∨ k = 4 ∨ k = 5 ∨ k = 6 ∨ k = 7 by omega) with rfl | rfl | rfl | rfl | rfl | rfl | rfl | rfl <;> (unfold yS; decide)
theorem ra_l {o : Nat} (h : tm_shp o = 13) (i : Nat) : tm_ra o i = o + 1 + i := by
  unfold tm_ra
  rw [if_neg (fun e => by rw [e] at h; exact absurd h (by decide)), if_neg (fun e => by rw [e] at h; exact absurd h (by decide)), if_neg (fun e => by rw [e] at h; exact absurd h (by decide))]
theorem rd_l {y i : Nat} (hy : yS y) (hi : i < 6) : tm_rdr (y + 2) 6 (nI i) = some (y + 3 + i) := by
  rw [tm_rdrN hi (by decide), ra_l hy.2.2.1]
def vK (v : LV) : Prop := sKind (v 0) ∧ (v 4 = 0 ∨ v 4 = 1) ∧ (v 11 = 0 ∨ v 11 = 1)
theorem vOK.k {d : Nat} {v : LV} (h : vOK d v) : vK v := ⟨h.1, h.2.1, h.2.2.1⟩
theorem c_copyT {M : tm_M} {t1 t2 : Nat} (h1 : tm_shp t1 = 5) (h2 : tm_shp t2 = 5) (hne : t2 ≠ t1) : ∃ v : LV, f_X6_copy M t1 t2 = some (tm_sr M t1 v) ∧ ∀ k, k < 6 → v k = M t2 k := by
  refine ⟨upd (upd (upd (upd (upd (upd (M t1) 0 (M t2 0)) 1 (M t2 1)) 2 (M t2 2)) 3 (M t2 3)) 4 (M t2 4)) 5 (M t2 5), ?_, fun k hk => ?_⟩
  · unfold f_X6_copy
    rw [tm_gd_t h1, tm_gd_t h2]
    simp only [tm_st_sr, tm_sr_sr, tm_sr_at, tm_sr_ne _ _ hne, Option.bind_some]
  · rcases (show k = 0 ∨ k = 1 ∨ k = 2 ∨ k = 3 ∨ k = 4 ∨ k = 5 by omega) with rfl | rfl | rfl | rfl | rfl | rfl <;> rfl
theorem c_copyY_L {y1 y2 nn : Nat} {k : Int32 → tm_M → Option tm_M} (h1 : yS y1) (h2 : yS y2) (hs : y1 + 9 ≤ y2 ∨ y2 + 9 ≤ y1) (hn : nn ≤ 6) :
    ∀ (j n c : Nat) (M : tm_M), c + j = nn → j < n → M y2 2 = nI nn → (∀ i, i < nn → vK (M (y2 + 3 + i))) →
      ∃ M' : tm_M, f_X8_copy_L13 k y1 y2 n (nI c) M = k (nI nn) M' ∧ (∀ i, i < nn → c ≤ i → lEq (M' (y1 + 3 + i)) (M (y2 + 3 + i))) ∧ ∀ a, (a < y1 + 3 + c ∨ y1 + 9 ≤ a) → M' a = M a := by
  intro j
  induction j with
  | zero =>
    intro n c M hc hj hM hv
    obtain ⟨n, rfl⟩ : ∃ m, n = m + 1 := ⟨n - 1, by omega⟩
    have : c = nn := by omega
    subst this
    refine ⟨M, ?_, fun i hi hic => by omega, fun _ _ => rfl⟩
    rw [f_X8_copy_L13, hM, if_pos (nI_le (Nat.le_refl _) (by omega))]
  | succ j ih =>
    intro n c M hc hj hM hv
    obtain ⟨n, rfl⟩ : ∃ m, n = m + 1 := ⟨n - 1, by omega⟩
    have hcn : c < nn := by omega
    obtain ⟨k0, k4, k11⟩ := hv c hcn
    rw [f_X8_copy_L13, hM, if_neg (nI_ge hcn (by omega)), if_neg (show ¬ (6 : Int32) ≤ nI c from nI_ge (b := 6) (by omega) (by decide)), tm_gd_t h1.2.2.1, rd_l h1 (by omega), Option.bind_some, tm_gd_t h2.2.2.1, rd_l h2 (by omega), Option.bind_some, tm_gd_t (h1.2.2.2 c (by omega)), c_copyL (h1.2.2.2 c (by omega)) (h2.2.2.2 c (by omega)) (by omega) k0 k4 k11, Option.bind_some, nI_1]
    obtain ⟨M', g1, g2, g3⟩ := ih n (c + 1) (tm_sr M (y1 + 3 + c) (lCopy (M (y1 + 3 + c)) (M (y2 + 3 + c)))) (by omega) (by omega) (by rw [tm_sr_ne _ _ (by omega)]; exact hM) (fun i hi => by rw [tm_sr_ne _ _ (by omega)]; exact hv i hi)
    refine ⟨M', g1, fun i hi hic => ?_, fun a ha => ?_⟩
    · by_cases e : i = c
      · subst e
        rw [g3 _ (by omega), tm_sr_at]
        exact lCopy_eq _ _
      · have := g2 i hi (by omega)
        rw [tm_sr_ne _ _ (by omega)] at this
        exact this
    · rw [g3 a (by omega), tm_sr_ne _ _ (by omega)]
theorem c_copyY {M : tm_M} {y1 y2 nn : Nat} (h1 : yS y1) (h2 : yS y2) (hs : y1 + 9 ≤ y2 ∨ y2 + 9 ≤ y1) (hn : nn ≤ 6) (hM : M y2 2 = nI nn) (hv : ∀ i, i < nn → vK (M (y2 + 3 + i))) :
    ∃ M' : tm_M, f_X8_copy M y1 y2 = some M' ∧ (∀ i, i < nn → lEq (M' (y1 + 3 + i)) (M (y2 + 3 + i))) ∧ (∀ k, k < 6 → M' (y1 + 1) k = M (y2 + 1) k) ∧ M' y1 2 = nI nn ∧ M' y1 3 = M y2 3 ∧ ∀ a, (a < y1 ∨ y1 + 9 ≤ a) → M' a = M a := by
  obtain ⟨v, e, hvk⟩ := c_copyT (M := M) h1.2.1 h2.2.1 (by omega)
  obtain ⟨M', g1, g2, g3⟩ := c_copyY_L (k := fun v19 M20 => (some (tm_st M20 y1 2 (M20 y2 2))).bind fun M21 => (some (tm_st M21 y1 3 (M21 y2 3))).bind fun M23 => some M23) h1 h2 hs hn nn 1000 0 (tm_sr M (y1 + 1) v) (by omega) (by omega) (by rw [tm_sr_ne _ _ (by omega)]; exact hM) (fun i hi => by rw [tm_sr_ne _ _ (by omega)]; exact hv i hi)
  have m2 : M' y2 = M y2 := by rw [g3 _ (by omega), tm_sr_ne _ _ (by omega)]
  refine ⟨tm_sr M' y1 (upd (upd (M' y1) 2 (M y2 2)) 3 (M y2 3)), ?_, fun i hi => ?_, fun k hk => ?_, ?_, ?_, fun a ha => ?_⟩
  · unfold f_X8_copy
    rw [tm_gd_t h1.1, tm_gd_t h2.1, tm_gd_t h1.2.1, e, Option.bind_some]
    refine g1.trans ?_
    simp only [Option.bind_some, tm_st_sr, tm_sr_sr, tm_sr_at, tm_sr_ne _ _ (show y2 ≠ y1 by omega), m2]
  · rw [tm_sr_ne _ _ (by omega)]
    have := g2 i hi (Nat.zero_le _)
    rw [tm_sr_ne _ _ (by omega)] at this
    exact this
  · rw [tm_sr_ne _ _ (by omega), g3 _ (by omega), tm_sr_at]
    exact hvk k hk
  · rw [tm_sr_at, pk_un (by decide), pk_us]
    exact hM
  · rw [tm_sr_at, pk_us]
  · rw [tm_sr_ne _ _ (by omega), g3 a (by omega), tm_sr_ne _ _ (by omega)]
/-! a day of a year of the class -/
theorem c_passY_L {y nn d : Nat} {k : Int32 → Int32 → tm_M → Option (Int32 × tm_M)} (hy : yS y) (hn : nn ≤ 6) (hd : d < 1100) :
    ∀ (j n c f : Nat) (M : tm_M), c + j = nn → j < n → M y 2 = nI nn → M y 3 = nI d → (∀ i, i < nn → c ≤ i → vK (M (y + 3 + i))) → f < 2 ^ c →
      ∃ (M' : tm_M) (f' : Nat), f_X8_pass_L4 k y n (nI f) (nI c) M = k (nI f') (nI nn) M' ∧ (∀ i, i < nn → c ≤ i → M' (y + 3 + i) = sPass (M (y + 1)) d (M (y + 3 + i))) ∧ f' < 2 ^ nn ∧ (∀ i, i < nn → c ≤ i → f'.testBit i = decide (sFlag (M (y + 1)) d (M (y + 3 + i)) = 1)) ∧ (∀ i, i < c → f'.testBit i = f.testBit i) ∧ ∀ a, (a < y + 3 + c ∨ y + 9 ≤ a) → M' a = M a := by
  intro j
  induction j with
  | zero =>
    intro n c f M hc hj hM hM3 hv hf
    obtain ⟨n, rfl⟩ : ∃ m, n = m + 1 := ⟨n - 1, by omega⟩
    have : c = nn := by omega
    subst this
    refine ⟨M, f, ?_, fun i hi hic => by omega, hf, fun i hi hic => by omega, fun _ _ => rfl, fun _ _ => rfl⟩
    rw [f_X8_pass_L4, hM, if_pos (nI_le (Nat.le_refl _) (by omega))]
  | succ j ih =>
    intro n c f M hc hj hM hM3 hv hf
    obtain ⟨n, rfl⟩ : ∃ m, n = m + 1 := ⟨n - 1, by omega⟩
    have hcn : c < nn := by omega
    obtain ⟨k0, k4, k11⟩ := hv c hcn (Nat.le_refl _)
    rw [f_X8_pass_L4, hM, if_neg (nI_ge hcn (by omega)), if_neg (show ¬ (6 : Int32) ≤ nI c from nI_ge (b := 6) (by omega) (by decide)), tm_gd_t hy.2.2.1, rd_l hy (by omega), Option.bind_some, tm_gd_t (hy.2.2.2 c (by omega)), hM3, s_pass (hy.2.2.2 c (by omega)) hy.2.1 hd k0, Option.bind_some, nI_1]
    have hf1 : f < 2 ^ (c + 1) := Nat.lt_of_lt_of_le hf (Nat.pow_le_pow_right (by decide) (by omega))
    have hff : ∃ f2, (∀ M1 : tm_M, (if sFlag (M (y + 1)) d (M (y + 3 + c)) = 0 then f_X8_pass_L4 k y n (nI f) (nI (c + 1)) M1 else (some (nI f ||| (1 <<< (nI c &&& 31)))).bind fun x11 => f_X8_pass_L4 k y n x11 (nI (c + 1)) M1) = f_X8_pass_L4 k y n (nI f2) (nI (c + 1)) M1) ∧ f2 < 2 ^ (c + 1) ∧ f2.testBit c = decide (sFlag (M (y + 1)) d (M (y + 3 + c)) = 1) ∧ ∀ i, i < c → f2.testBit i = f.testBit i := by
      rcases s_flag (M (y + 1)) d (M (y + 3 + c)) with z | z
      · refine ⟨f, fun M1 => by rw [if_pos z], hf1, ?_, fun _ _ => rfl⟩
        rw [Nat.testBit_lt_two_pow hf, z]
        rfl
      · refine ⟨f ||| 2 ^ c, fun M1 => ?_, Nat.or_lt_two_pow hf1 (Nat.pow_lt_pow_right (by decide) (by omega)), ?_, fun i hi => ?_⟩
        · rw [if_neg (by rw [z]; decide), Option.bind_some, bit_or f (p64 (n := c) (by omega) hf) c (by omega)]
        · rw [Nat.testBit_or, Nat.testBit_two_pow_self, Bool.or_true, z]
          rfl
        · rw [Nat.testBit_or, Nat.testBit_two_pow, decide_eq_false (by omega), Bool.or_false]
    obtain ⟨f2, ef, hf2, hb2, hb3⟩ := hff
    have mne : ∀ a, a ≠ y + 3 + c → tm_sr M (y + 3 + c) (sPass (M (y + 1)) d (M (y + 3 + c))) a = M a := fun a h => tm_sr_ne _ _ h
    obtain ⟨M', f', g1, g2, g3, g4, g5, g6⟩ := ih n (c + 1) f2 (tm_sr M (y + 3 + c) (sPass (M (y + 1)) d (M (y + 3 + c)))) (by omega) (by omega) (by rw [mne _ (by omega)]; exact hM) (by rw [mne _ (by omega)]; exact hM3) (fun i hi hic => by rw [mne _ (by omega)]; exact hv i hi (by omega)) hf2
    refine ⟨M', f', (ef _).trans g1, fun i hi hic => ?_, g3, fun i hi hic => ?_, fun i hi => ?_, fun a ha => ?_⟩
    · by_cases e : i = c
      · subst e
        rw [g6 _ (by omega), tm_sr_at]
      · rw [g2 i hi (by omega), mne _ (by omega), mne _ (by omega)]
    · by_cases e : i = c
      · subst e
        rw [g5 i (by omega), hb2]
      · rw [g4 i hi (by omega), mne _ (by omega), mne _ (by omega)]
    · rw [g5 i (by omega), hb3 i hi]
    · rw [g6 a (by omega), mne _ (by omega)]
theorem c_passY {M : tm_M} {y nn d : Nat} (hy : yS y) (hn : nn ≤ 6) (hd : d < 1100) (hM : M y 2 = nI nn) (hM3 : M y 3 = nI d) (hv : ∀ i, i < nn → vK (M (y + 3 + i))) :
    ∃ (M' : tm_M) (f : Nat), f_X8_pass M y = some (nI f, M') ∧ (∀ i, i < nn → M' (y + 3 + i) = sPass (M (y + 1)) d (M (y + 3 + i))) ∧ f < 2 ^ nn ∧ (∀ i, i < nn → f.testBit i = decide (sFlag (M (y + 1)) d (M (y + 3 + i)) = 1)) ∧ M' y 2 = nI nn ∧ M' y 3 = nI (d + 1) ∧ M' (y + 1) = M (y + 1) ∧ ∀ a, (a < y ∨ y + 9 ≤ a) → M' a = M a := by
  obtain ⟨M', f, g1, g2, g3, g4, -, g6⟩ := c_passY_L (k := fun v12 v13 M14 => (some (tm_st M14 y 3 ((M14 y 3) + 1))).bind fun M15 => some (v12, M15)) hy hn hd nn 1000 0 0 M (by omega) (by omega) hM hM3 (fun i hi _ => hv i hi) (by decide)
  have my : M' y = M y := g6 y (by omega)
  refine ⟨tm_sr M' y (upd (M y) 3 (nI (d + 1))), f, ?_, fun i hi => ?_, g3, fun i hi => g4 i hi (Nat.zero_le _), ?_, ?_, ?_, fun a ha => ?_⟩
  · unfold f_X8_pass
    rw [tm_gd_t hy.1]
    refine g1.trans ?_
    rw [Option.bind_some, my, hM3, nI_1, tm_st_sr, my]
  · rw [tm_sr_ne _ _ (by omega)]
    exact g2 i hi (Nat.zero_le _)
  · rw [tm_sr_at, pk_un (by decide)]; exact hM
  · rw [tm_sr_at, pk_us]
  · rw [tm_sr_ne _ _ (by omega), g6 _ (by omega)]
  · rw [tm_sr_ne _ _ (by omega), g6 a (by omega)]
