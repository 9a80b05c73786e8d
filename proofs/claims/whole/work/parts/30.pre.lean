/-! PURE ROWS: the functions f_.. on memories; from here on no machine -/
theorem tm_vin_nI {k n : Nat} (h : k < n) (hn : n < 2 ^ 31) : tm_vin (nI k) n = true := by
  unfold tm_vin
  rw [nI_clamp (by omega)]
  simp [nI_pos (show k < 2 ^ 31 by omega), h]
theorem tm_rdN {M : tm_M} {o n k : Nat} (h : k < n) (hn : n < 2 ^ 31) : tm_rd M o n (nI k) = some (M o k) := by
  unfold tm_rd
  rw [if_pos (tm_vin_nI h hn), nI_clamp (by omega)]
theorem tm_wrN {M : tm_M} {o n k : Nat} {v : Int32} (h : k < n) (hn : n < 2 ^ 31) : tm_wr M o n (nI k) v = some (tm_st M o k v) := by
  unfold tm_wr
  rw [if_pos (tm_vin_nI h hn), nI_clamp (by omega)]
theorem tm_rdrN {o n k : Nat} (h : k < n) (hn : n < 2 ^ 31) : tm_rdr o n (nI k) = some (tm_ra o k) := by
  unfold tm_rdr
  rw [if_pos (tm_vin_nI h hn), nI_clamp (by omega)]
theorem tm_rdsN {f : Nat → Int32} {n k : Nat} (h : k < n) (hn : n < 2 ^ 31) : tm_rds f n (nI k) = some (f k) := by
  unfold tm_rds
  rw [if_pos (tm_vin_nI h hn), nI_clamp (by omega)]
theorem tm_gd_t {α : Type} {b : Prop} [Decidable b] {k : Option α} (h : b) : tm_gd b k = k := if_pos h
/-- a whole row of the memory -/
def tm_sr (M : tm_M) (o : Nat) (v : Nat → Int32) : tm_M := fun a => if a = o then v else M a
theorem tm_st_sr (M : tm_M) (o k : Nat) (x : Int32) : tm_st M o k x = tm_sr M o (upd (M o) k x) := rfl
theorem tm_sr_sr (M : tm_M) (o : Nat) (v w : Nat → Int32) : tm_sr (tm_sr M o v) o w = tm_sr M o w := by
  funext a
  unfold tm_sr
  split <;> rfl
theorem tm_sr_at (M : tm_M) (o : Nat) (v : Nat → Int32) : tm_sr M o v o = v := if_pos rfl
theorem tm_sr_ne (M : tm_M) {o a : Nat} (v : Nat → Int32) (h : a ≠ o) : tm_sr M o v a = M a := if_neg h
theorem tm_sr_self (M : tm_M) (o : Nat) : tm_sr M o (M o) = M := by
  funext a
  unfold tm_sr
  split
  · next h => rw [h]
  · rfl
theorem tm_up_same (f : Nat → Int32) (k : Nat) : upd f k (f k) = f := by
  funext j
  unfold upd
  split
  · next h => rw [h]
  · rfl
theorem tm_i_lit : (∀ x : Int32, x + 0 = x) := fun x => by simp
/-! days -/
theorem tm_m7 : ∀ d, d < 1100 → (nI d - nI d / 7 * 7 = 6 ↔ d % 7 = 6) := by decide +kernel
theorem tm_isSun {d : Nat} (h : d < 1100) : f_X0_isSunday (nI d) = some (if d % 7 = 6 then 1 else 0) := by
  unfold f_X0_isSunday
  by_cases q : d % 7 = 6
  · rw [if_pos ((tm_m7 d h).mpr q), if_pos q]
  · rw [if_neg (fun z => q ((tm_m7 d h).mp z)), if_neg q]
/-! ONE COUPLE, ONE DAY, as the class has it: v its twelve numbers (0 the offset of its kind's object: 1 plain, 8 proud, 9 sunday, 10 sulky), T the terms -/
abbrev LV : Type := Nat → Int32
def sGain (d : Nat) (v : LV) : Int32 := if v 0 = 8 then (if v 11 = 0 then v 1 else v 1 + 2) else if v 0 = 9 then (if d % 7 = 6 then 2 * v 1 else v 1) else if v 0 = 10 then v 1 + v 3 else v 1
def sMore (v : LV) (x : Int32) : LV := upd v 2 (if v 2 + x < 99 then v 2 + x else 99)
def sClaim (T : LV) (v : LV) : Int32 := if 0 < (if T 1 < v 2 then T 1 else v 2) - T 0 then (if T 1 < v 2 then T 1 else v 2) - T 0 else 0
def sBreak (T : LV) (d : Nat) (v : LV) : LV :=
  upd (upd (upd (upd (if v 4 = 0 ∧ (v 0 = 9 → d % 7 = 6) then upd v 9 (v 9 + sClaim T v) else v) 5 (v 5 + 1)) 10 (nI d)) 2 0) 3 0
def sHalf (d : Nat) (v : LV) : Bool := if v 10 = -1 then !(decide (nI d < 10)) else !(decide (nI d - v 10 < 10))
def sTiff (T : LV) (d : Nat) (v : LV) : LV :=
  upd (upd (upd (upd (if sHalf d v = true then upd v 7 (v 7 + 1) else v) 8 (v 8 + (if sHalf d v = true then T 2 / 2 else T 2))) 6 (v 6 + 1)) 11 1) 2 (if 0 < v 2 - T 5 then v 2 - T 5 else 0)
def sSulk (v : LV) : LV := if v 3 + 1 < 3 then upd v 3 (v 3 + 1) else upd (upd v 3 (v 3 + 1)) 4 1
def sDay1 (d : Nat) (v : LV) : LV := upd (sMore v (sGain d v)) 11 0
def sFlag (T : LV) (d : Nat) (v : LV) : Int32 := if sDay1 d v 2 < T 4 then 0 else 1
def sPass (T : LV) (d : Nat) (v : LV) : LV :=
  if sDay1 d v 2 < T 4 then (if sDay1 d v 2 < T 3 then upd (sDay1 d v) 3 0 else if v 0 = 10 then sSulk (sDay1 d v) else sTiff T d (sDay1 d v)) else sBreak T d (sDay1 d v)
def sKiss (v : LV) : LV := upd (upd (upd v 2 (v 2 / 2)) 3 0) 4 0
def sKind (x : Int32) : Prop := x = 1 ∨ x = 8 ∨ x = 9 ∨ x = 10
theorem tm_shp_ne {o t j k : Nat} (ho : tm_shp o = j) (ht : tm_shp t = k) (h : j ≠ k) : t ≠ o := fun e => h (by rw [← ho, ← ht, e])
theorem s_kiss {M : tm_M} {o : Nat} (ho : tm_shp o = 0) : f_X1_beKissed M o = some (tm_sr M o (sKiss (M o))) := by
  simp [f_X1_beKissed, tm_gd, ho, tm_st_sr, tm_sr_sr, tm_sr_at, sKiss]
theorem s_visit {M : tm_M} {o : Nat} (ho : tm_shp o = 0) : f_X1_beVisited M o = some (tm_sr M o (sMore (M o) 10)) := by
  simp [f_X1_beVisited, tm_gd, ho, tm_st_sr, tm_sr_sr, tm_sr_at, sMore]
theorem s_sulk {M : tm_M} {o : Nat} (ho : tm_shp o = 0) : f_X1_sulk M o = some (tm_sr M o (sSulk (M o))) := by
  simp only [f_X1_sulk, tm_gd, ho, tm_st_sr, tm_sr_sr, tm_sr_at, sSulk, Option.bind_some, if_true]
  have e : upd (M o) 3 (M o 3 + 1) 3 = M o 3 + 1 := pk_us
  rw [e]
  split <;> rfl
theorem s_calm {M : tm_M} {o d : Nat} (ho : tm_shp o = 0) : f_X1_isCalm M o (nI d) = some (if sHalf d (M o) = true then 1 else 0) := by
  by_cases h1 : M o 10 = -1
  · by_cases h2 : nI d < 10 <;> simp [f_X1_isCalm, tm_gd, ho, sHalf, h1, h2]
  · by_cases h2 : nI d - M o 10 < 10 <;> simp [f_X1_isCalm, tm_gd, ho, sHalf, h1, h2]
theorem s_tiff {M : tm_M} {o t d : Nat} (ho : tm_shp o = 0) (ht : tm_shp t = 5) : f_X1_payTiff M o (nI d) t = some (tm_sr M o (sTiff (M t) d (M o))) := by
  have hne : t ≠ o := tm_shp_ne ho ht (by decide)
  unfold f_X1_payTiff
  rw [tm_gd_t ho, tm_gd_t ht, s_calm ho, Option.bind_some]
  by_cases h : sHalf d (M o) = true
  · simp [h, tm_st_sr, tm_sr_sr, tm_sr_at, tm_sr_ne _ _ hne, sTiff, upd]
  · simp [h, tm_st_sr, tm_sr_sr, tm_sr_at, tm_sr_ne _ _ hne, sTiff, upd]
theorem s_kn {x : Int32} (h : sKind x) : ¬ x = 0 ∧ ((x = 1 ∧ tm_shp x.toNatClampNeg = 1) ∨ (x = 8 ∧ tm_shp x.toNatClampNeg = 2) ∨ (x = 9 ∧ tm_shp x.toNatClampNeg = 4) ∨ (x = 10 ∧ tm_shp x.toNatClampNeg = 3)) := by
  rcases h with rfl | rfl | rfl | rfl <;> decide
theorem tm_sh1 : tm_shp 1 = 1 := rfl
theorem tm_sh8 : tm_shp 8 = 2 := rfl
theorem tm_sh9 : tm_shp 9 = 4 := rfl
theorem tm_sh10 : tm_shp 10 = 3 := rfl
theorem s_break {M : tm_M} {o t d : Nat} (ho : tm_shp o = 0) (ht : tm_shp t = 5) (hd : d < 1100) (hk : sKind (M o 0)) : f_X1_breakUp M o (nI d) t = some (tm_sr M o (sBreak (M t) d (M o))) := by
  have hne : t ≠ o := tm_shp_ne ho ht (by decide)
  obtain ⟨h0, hk⟩ := s_kn hk
  unfold f_X1_breakUp
  rw [tm_gd_t ho, tm_gd_t ht]
  by_cases h4 : M o 4 = 0
  · rw [if_pos h4, tm_gd_t h0]
    rcases hk with ⟨e, q⟩ | ⟨e, q⟩ | ⟨e, q⟩ | ⟨e, q⟩
    · simp [e, tm_sh1, tm_sh8, tm_sh9, tm_sh10, h4, f_X0_isCovered, tm_st_sr, tm_sr_sr, tm_sr_at, tm_sr_ne _ _ hne, sBreak, sClaim, upd]
    · simp [e, tm_sh1, tm_sh8, tm_sh9, tm_sh10, h4, f_X0_isCovered, tm_st_sr, tm_sr_sr, tm_sr_at, tm_sr_ne _ _ hne, sBreak, sClaim, upd]
    · by_cases h7 : d % 7 = 6
      · simp [e, tm_sh1, tm_sh8, tm_sh9, tm_sh10, h4, h7, f_X5_isCovered, tm_isSun hd, tm_gd, tm_st_sr, tm_sr_sr, tm_sr_at, tm_sr_ne _ _ hne, sBreak, sClaim, upd]
      · simp [e, tm_sh1, tm_sh8, tm_sh9, tm_sh10, h4, h7, f_X5_isCovered, tm_isSun hd, tm_gd, tm_st_sr, tm_sr_sr, tm_sr_at, tm_sr_ne _ _ hne, sBreak, sClaim, upd]
    · simp [e, tm_sh1, tm_sh8, tm_sh9, tm_sh10, h4, f_X0_isCovered, tm_st_sr, tm_sr_sr, tm_sr_at, tm_sr_ne _ _ hne, sBreak, sClaim, upd]
  · simp [h4, tm_st_sr, tm_sr_sr, tm_sr_at, tm_sr_ne _ _ hne, sBreak, upd]
theorem s_pass {M : tm_M} {o t d : Nat} (ho : tm_shp o = 0) (ht : tm_shp t = 5) (hd : d < 1100) (hk : sKind (M o 0)) : f_X1_pass M o (nI d) t = some (sFlag (M t) d (M o), tm_sr M o (sPass (M t) d (M o))) := by
  have hne : t ≠ o := tm_shp_ne ho ht (by decide)
  obtain ⟨h0, hk2⟩ := s_kn hk
  have hb : ∀ v : LV, v 0 = M o 0 → f_X1_breakUp (tm_sr M o v) o (nI d) t = some (tm_sr M o (sBreak (M t) d v)) := fun v hv => by
    rw [s_break ho ht hd (by rw [tm_sr_at, hv]; exact hk), tm_sr_at, tm_sr_sr, tm_sr_ne _ _ hne]
  have hti : ∀ v : LV, f_X1_payTiff (tm_sr M o v) o (nI d) t = some (tm_sr M o (sTiff (M t) d v)) := fun v => by
    rw [s_tiff ho ht, tm_sr_at, tm_sr_sr, tm_sr_ne _ _ hne]
  have hsu : ∀ v : LV, f_X1_sulk (tm_sr M o v) o = some (tm_sr M o (sSulk v)) := fun v => by
    rw [s_sulk ho, tm_sr_at, tm_sr_sr]
  have main : ∀ x : Int32, sGain d (M o) = x → ∀ r : Option (Int32 × tm_M),
      ((some (tm_st M o 2 (if ((M o 2) + x) < 99 then ((M o 2) + x) else 99))).bind fun M7 => (some (tm_st M7 o 11 0)).bind fun M9 =>
        if (M9 o 2) < (M9 t 4) then
          if (M9 o 2) < (M9 t 3) then (some (tm_st M9 o 3 0)).bind fun M13 => some (0, M13)
          else tm_gd (¬ M9 o 0 = 0) <|
            if tm_shp ((M9 o 0).toNatClampNeg) = 1 then (f_X2_quarrel M9 ((M9 o 0).toNatClampNeg) o (nI d) t).bind fun M19 => some (0, M19)
            else if tm_shp ((M9 o 0).toNatClampNeg) = 2 then (f_X2_quarrel M9 ((M9 o 0).toNatClampNeg) o (nI d) t).bind fun M23 => some (0, M23)
              else if tm_shp ((M9 o 0).toNatClampNeg) = 3 then (f_X4_quarrel M9 ((M9 o 0).toNatClampNeg) o (nI d) t).bind fun M27 => some (0, M27)
                else if tm_shp ((M9 o 0).toNatClampNeg) = 4 then (f_X2_quarrel M9 ((M9 o 0).toNatClampNeg) o (nI d) t).bind fun M31 => some (0, M31) else none
        else (f_X1_breakUp M9 o (nI d) t).bind fun M34 => some (1, M34)) = r → r = some (sFlag (M t) d (M o), tm_sr M o (sPass (M t) d (M o))) := by
    intro x hx r hr
    subst hx
    rw [← hr]
    have e1 : tm_st (tm_st M o 2 (if ((M o 2) + sGain d (M o)) < 99 then ((M o 2) + sGain d (M o)) else 99)) o 11 0 = tm_sr M o (sDay1 d (M o)) := by
      rw [tm_st_sr, tm_st_sr, tm_sr_sr, tm_sr_at]
      rfl
    rw [Option.bind_some, e1, Option.bind_some, tm_sr_at, tm_sr_ne _ _ hne]
    have e0 : sDay1 d (M o) 0 = M o 0 := by simp [sDay1, sMore, upd]
    rw [e0]
    unfold sFlag sPass
    by_cases q1 : sDay1 d (M o) 2 < M t 4
    · rw [if_pos q1, if_pos q1, if_pos q1]
      by_cases q2 : sDay1 d (M o) 2 < M t 3
      · rw [if_pos q2, if_pos q2, tm_st_sr, tm_sr_sr, tm_sr_at]
        rfl
      · rw [if_neg q2, if_neg q2, tm_gd_t h0]
        rcases hk2 with ⟨e, q⟩ | ⟨e, q⟩ | ⟨e, q⟩ | ⟨e, q⟩
        · simp [e, tm_sh1, f_X2_quarrel, tm_gd, ho, ht, hti]
        · simp [e, tm_sh8, f_X2_quarrel, tm_gd, ho, ht, hti]
        · simp [e, tm_sh9, f_X2_quarrel, tm_gd, ho, ht, hti]
        · simp [e, tm_sh10, f_X4_quarrel, tm_gd, ho, ht, hsu]
    · rw [if_neg q1, if_neg q1, if_neg q1, hb _ e0]
      rfl
  unfold f_X1_pass
  rw [tm_gd_t ho, tm_gd_t ht, tm_gd_t h0]
  rcases hk2 with ⟨e, q⟩ | ⟨e, q⟩ | ⟨e, q⟩ | ⟨e, q⟩
  · rw [if_pos q, show f_X0_gain M ((M o 0).toNatClampNeg) o (nI d) = some (sGain d (M o)) from by simp [f_X0_gain, tm_gd, ho, sGain, e], Option.bind_some]
    exact main _ rfl _ rfl
  · rw [if_neg (by rw [q]; decide), if_pos q, show f_X3_gain M ((M o 0).toNatClampNeg) o (nI d) = some (sGain d (M o)) from by by_cases z : M o 11 = 0 <;> simp [f_X3_gain, tm_gd, ho, sGain, e, z], Option.bind_some]
    exact main _ rfl _ rfl
  · rw [if_neg (by rw [q]; decide), if_neg (by rw [q]; decide), if_neg (by rw [q]; decide), if_pos q, show f_X5_gain M ((M o 0).toNatClampNeg) o (nI d) = some (sGain d (M o)) from by by_cases z : d % 7 = 6 <;> simp [f_X5_gain, tm_gd, ho, sGain, e, z, tm_isSun hd], Option.bind_some]
    exact main _ rfl _ rfl
  · rw [if_neg (by rw [q]; decide), if_neg (by rw [q]; decide), if_pos q, show f_X4_gain M ((M o 0).toNatClampNeg) o (nI d) = some (sGain d (M o)) from by simp [f_X4_gain, tm_gd, ho, sGain, e], Option.bind_some]
    exact main _ rfl _ rfl
