/-! THE REFERENCE'S ROW: one couple of a desk that lies at place b of the row -/
theorem tm_sr_lit (M : tm_M) (o : Nat) (v : Nat → Int32) (a : Nat) : tm_sr M o v a = if a = o then v else M a := rfl
theorem m_rd {M : tm_M} {r : LV} {b c j : Nat} {J : Int32} (hJ : J = nI j) (h : b + j + c < 672) : tm_rd (tm_sr M 132 r) 132 672 ((nI b + J) + nI c) = some (r (b + j + c)) := by
  rw [hJ, nI_add, nI_add, tm_rdN h (by decide), tm_sr_at]
theorem m_rd0 {M : tm_M} {r : LV} {b j : Nat} {J : Int32} (hJ : J = nI j) (h : b + j < 672) : tm_rd (tm_sr M 132 r) 132 672 (nI b + J) = some (r (b + j)) := by
  rw [hJ, nI_add, tm_rdN h (by decide), tm_sr_at]
theorem m_rd00 {M : tm_M} {r : LV} {b : Nat} (h : b < 672) : tm_rd (tm_sr M 132 r) 132 672 (nI b + 0) = some (r b) := by
  rw [tm_i_lit, tm_rdN h (by decide), tm_sr_at]
theorem m_wr00 {M : tm_M} {r : LV} {b : Nat} {x : Int32} (h : b < 672) : tm_wr (tm_sr M 132 r) 132 672 (nI b + 0) x = some (tm_sr M 132 (upd r b x)) := by
  rw [tm_i_lit, tm_wrN h (by decide), tm_st_sr, tm_sr_sr, tm_sr_at]
theorem m_wr {M : tm_M} {r : LV} {b c j : Nat} {J x : Int32} (hJ : J = nI j) (h : b + j + c < 672) : tm_wr (tm_sr M 132 r) 132 672 ((nI b + J) + nI c) x = some (tm_sr M 132 (upd r (b + j + c) x)) := by
  rw [hJ, nI_add, nI_add, tm_wrN h (by decide), tm_st_sr, tm_sr_sr, tm_sr_at]
theorem m_wr0 {M : tm_M} {r : LV} {b j : Nat} {J x : Int32} (hJ : J = nI j) (h : b + j < 672) : tm_wr (tm_sr M 132 r) 132 672 (nI b + J) x = some (tm_sr M 132 (upd r (b + j) x)) := by
  rw [hJ, nI_add, tm_wrN h (by decide), tm_st_sr, tm_sr_sr, tm_sr_at]
theorem m_rk {M : tm_M} {r : LV} {o c : Nat} (ho : o ≠ 132) (hc : c < 6) : tm_rd (tm_sr M 132 r) o 6 (nI c) = some (M o c) := by
  rw [tm_rdN hc (by decide), tm_sr_ne _ _ ho]
theorem m_term {M : tm_M} {r : LV} {b k : Nat} {K : Int32} (hK : K = nI k) (hb : b ≤ 616) (hk : k < 6) : f_X10_termOf (tm_sr M 132 r) (nI b) K = some (r (b + 1 + k)) := by
  unfold f_X10_termOf
  rw [hK, m_rd (J := 1) (j := 1) rfl (by omega), Option.bind_some]
def sKd (kd x : Int32) : Prop := (kd = 0 ∧ x = 1) ∨ (kd = 1 ∧ x = 8) ∨ (kd = 2 ∧ x = 9) ∨ (kd = 3 ∧ x = 10)
/-- couple c of the desk at b is v; td: the day of the tiff that counts as yesterday's -/
def vR (M : tm_M) (r : LV) (b c : Nat) (td : Int32) (v : LV) : Prop :=
  sKd (M 134 c) (v 0) ∧ M 135 c = v 1 ∧ r (b + 7 + c) = v 2 ∧ r (b + 13 + c) = v 3 ∧ (r (b + 19) >>> (nI c &&& 31)) &&& 1 = v 4 ∧ r (b + 20 + c) = v 5 ∧ r (b + 26 + c) = v 6 ∧ r (b + 32 + c) = v 8 ∧ r (b + 38 + c) = v 9 ∧ r (b + 44 + c) = v 10 ∧ v 11 = (if r (b + 50 + c) = -1 then 0 else if r (b + 50 + c) = td then 1 else 0)
theorem m_gain {M : tm_M} {r v : LV} {b c d : Nat} (hb : b ≤ 616) (hc : c < 6) (hd : d < 1100) (hrd : r b = nI d) (h : vR M r b c (nI d - 1) v) : f_X10_gainOf (tm_sr M 132 r) (nI b) (nI c) = some (sGain d v) := by
  obtain ⟨hk, h1, h2, h3, h4, h5, h6, h8, h9, h10, h11⟩ := h
  unfold f_X10_gainOf
  rw [m_rk (by decide) hc, Option.bind_some, m_rk (by decide) hc, Option.bind_some, m_rd (J := 50) (j := 50) rfl (by omega), m_rd (J := 13) (j := 13) rfl (by omega), m_rd00 (by omega), hrd, h1, h3]
  rcases hk with ⟨e, q⟩ | ⟨e, q⟩ | ⟨e, q⟩ | ⟨e, q⟩
  · simp [e, q, sGain]
  · rw [e]
    by_cases z1 : r (b + 50 + c) = -1
    · simp [q, sGain, h11, z1]
    · by_cases z2 : r (b + 50 + c) = nI d - 1
      · rw [z2] at z1
        simp [q, sGain, h11, z1, z2]
      · simp [q, sGain, h11, z1, z2]
  · rw [e]
    by_cases z : d % 7 = 6
    · simp [q, sGain, z, (tm_m7 d hd).mpr z]
    · have z2 : ¬ (nI d - nI d / 7 * 7 = 6) := fun y => z ((tm_m7 d hd).mp y)
      simp [q, sGain, z, z2]
  · simp [e, q, sGain]
theorem i_lim (x : Int32) : (if x ≤ 99 then x else 99) = (if x < 99 then x else 99) := by
  by_cases h : x < 99
  · rw [if_pos h, if_pos (Int32.le_of_lt h)]
  · rw [if_neg h]
    split
    · next h2 => exact Int32.le_antisymm h2 (Int32.not_lt.mp h)
    · rfl
theorem m_more {M : tm_M} {r : LV} {b c : Nat} {x : Int32} (hb : b ≤ 616) (hc : c < 6) : f_X10_strainMore (tm_sr M 132 r) (nI b) (nI c) x = some (tm_sr M 132 (upd r (b + 7 + c) (if r (b + 7 + c) + x < 99 then r (b + 7 + c) + x else 99))) := by
  unfold f_X10_strainMore
  rw [m_rd (J := 7) (j := 7) rfl (by omega), Option.bind_some, Option.bind_some, m_wr (J := 7) (j := 7) rfl (by omega), m_wr (J := 7) (j := 7) rfl (by omega), ← i_lim]
  split <;> rfl
theorem m_has {w c : Int32} : f_X10_has w c = some (if (w >>> (c &&& 31)) &&& 1 = 1 then 1 else 0) := by
  unfold f_X10_has
  split <;> rfl
theorem i_min (s t : Int32) : (if t ≤ s then t else s) = (if t < s then t else s) := by
  by_cases h : t < s
  · rw [if_pos h, if_pos (Int32.le_of_lt h)]
  · rw [if_neg h]
    split
    · next h2 => exact Int32.le_antisymm h2 (Int32.not_lt.mp h)
    · rfl
theorem i_max (x : Int32) : (if 0 ≤ x then x else 0) = (if 0 < x then x else 0) := by
  by_cases h : 0 < x
  · rw [if_pos h, if_pos (Int32.le_of_lt h)]
  · rw [if_neg h]
    split
    · next h2 => exact (Int32.le_antisymm h2 (Int32.not_lt.mp h)).symm
    · rfl
/-- what the break of couple c is worth to the reference -/
theorem m_claim {M : tm_M} {r v : LV} {b c d : Nat} (hb : b ≤ 616) (hc : c < 6) (hd : d < 1100) (hrd : r b = nI d) (hk : sKd (M 134 c) (v 0)) (h2 : r (b + 7 + c) = v 2) (h4 : (r (b + 19) >>> (nI c &&& 31)) &&& 1 = v 4) (h41 : v 4 = 0 ∨ v 4 = 1) {T : LV} (hT : ∀ k, k < 6 → r (b + 1 + k) = T k) : f_X10_claimOf (tm_sr M 132 r) (nI b) (nI c) = some (if v 4 = 0 ∧ (v 0 = 9 → d % 7 = 6) then sClaim T v else 0) := by
  have t0 := hT 0 (by decide)
  have t1 := hT 1 (by decide)
  have hcl : (if T 1 ≤ v 2 then if 0 ≤ T 1 - T 0 then some (T 1 - T 0) else some 0 else if 0 ≤ v 2 - T 0 then some (v 2 - T 0) else some 0) = some (sClaim T v) := by
    unfold sClaim
    rw [← i_min, ← i_max]
    by_cases z : T 1 ≤ v 2
    · rw [if_pos z, if_pos z]
      split <;> rfl
    · rw [if_neg z, if_neg z]
      split <;> rfl
  unfold f_X10_claimOf
  simp only [m_rd0 (M := M) (r := r) (b := b) (J := 19) (j := 19) rfl (by omega), m_rd00 (M := M) (r := r) (b := b) (by omega), m_rd (M := M) (r := r) (b := b) (c := c) (J := 7) (j := 7) rfl (by omega), m_rk (M := M) (r := r) (show (134 : Nat) ≠ 132 by decide) hc, m_term (M := M) (r := r) (b := b) (K := 1) (k := 1) rfl hb (by decide), m_term (M := M) (r := r) (b := b) (K := 0) (k := 0) rfl hb (by decide), m_has, Option.bind_some, h2, h4, t0, t1, hrd]
  rcases h41 with e4 | e4
  · have n41 : ¬ ((0 : Int32) = 1) := by decide
    rw [e4, if_neg n41, if_pos rfl]
    by_cases e2 : M 134 c = 2
    · have q9 : v 0 = 9 := by
        rcases hk with ⟨e, q⟩ | ⟨e, q⟩ | ⟨e, q⟩ | ⟨e, q⟩
        · rw [e] at e2; exact absurd e2 (by decide)
        · rw [e] at e2; exact absurd e2 (by decide)
        · exact q
        · rw [e] at e2; exact absurd e2 (by decide)
      rw [if_pos e2]
      by_cases z : d % 7 = 6
      · rw [if_pos ((tm_m7 d hd).mpr z), hcl]
        simp [z]
      · rw [if_neg (fun y => z ((tm_m7 d hd).mp y))]
        simp [z, q9]
    · have q9 : ¬ v 0 = 9 := by
        rcases hk with ⟨e, q⟩ | ⟨e, q⟩ | ⟨e, q⟩ | ⟨e, q⟩
        · rw [q]; decide
        · rw [q]; decide
        · exact absurd e e2
        · rw [q]; decide
      rw [if_neg e2, hcl]
      simp [q9]
  · have n10 : ¬ ((1 : Int32) = 0) := by decide
    rw [e4, if_pos rfl, if_neg n10]
    simp
/-- the reference's breakUp, as a change of the row -/
def rBreak (r : LV) (b c d : Nat) (x : Int32) : LV := upd (upd (upd (upd (upd r (b + 38 + c) (r (b + 38 + c) + x)) (b + 20 + c) (r (b + 20 + c) + 1)) (b + 44 + c) (nI d)) (b + 7 + c) 0) (b + 13 + c) 0
theorem m_break {M : tm_M} {r v : LV} {b c d : Nat} (hb : b ≤ 616) (hc : c < 6) (hd : d < 1100) (hrd : r b = nI d) (hk : sKd (M 134 c) (v 0)) (h2 : r (b + 7 + c) = v 2) (h4 : (r (b + 19) >>> (nI c &&& 31)) &&& 1 = v 4) (h41 : v 4 = 0 ∨ v 4 = 1) {T : LV} (hT : ∀ k, k < 6 → r (b + 1 + k) = T k) : f_X10_breakUp (tm_sr M 132 r) (nI b) (nI c) = some (tm_sr M 132 (rBreak r b c d (if v 4 = 0 ∧ (v 0 = 9 → d % 7 = 6) then sClaim T v else 0))) := by
  unfold f_X10_breakUp
  rw [m_rd (J := 38) (j := 38) rfl (by omega), Option.bind_some, m_claim hb hc hd hrd hk h2 h4 h41 hT, Option.bind_some, m_wr (J := 38) (j := 38) rfl (by omega), Option.bind_some, m_rd (J := 20) (j := 20) rfl (by omega), Option.bind_some, m_wr (J := 20) (j := 20) rfl (by omega), Option.bind_some, m_rd00 (by omega), Option.bind_some, m_wr (J := 44) (j := 44) rfl (by omega), Option.bind_some, m_wr (J := 7) (j := 7) rfl (by omega), Option.bind_some, m_wr (J := 13) (j := 13) rfl (by omega), Option.bind_some]
  rw [pk_un (show b + 20 + c ≠ b + 38 + c by omega), pk_un (show b ≠ b + 20 + c by omega), pk_un (show b ≠ b + 38 + c by omega), hrd]
  rfl
/-- quarrel: the sulky one -/
def rSulk (r : LV) (b c : Nat) : LV := upd (upd r (b + 13 + c) (r (b + 13 + c) + 1)) (b + 19) (r (b + 19) ||| (if r (b + 13 + c) + 1 = 3 then 1 <<< (nI c &&& 31) else 0))
theorem m_sulk {M : tm_M} {r : LV} {b c : Nat} (hb : b ≤ 616) (hc : c < 6) (hk : M 134 c = 3) : f_X10_quarrel (tm_sr M 132 r) (nI b) (nI c) = some (tm_sr M 132 (rSulk r b c)) := by
  unfold f_X10_quarrel
  rw [m_rk (by decide) hc, Option.bind_some, if_pos hk, m_rd (J := 13) (j := 13) rfl (by omega), Option.bind_some, m_wr (J := 13) (j := 13) rfl (by omega), Option.bind_some, m_rd0 (J := 19) (j := 19) rfl (by omega), Option.bind_some, m_rd (J := 13) (j := 13) rfl (by omega), Option.bind_some, pk_us, m_wr0 (J := 19) (j := 19) rfl (by omega), m_wr0 (J := 19) (j := 19) rfl (by omega), pk_un (show b + 19 ≠ b + 13 + c by omega)]
  unfold rSulk
  split <;> rfl
/-- quarrel: the others -/
def rTiff (r : LV) (b c d : Nat) (x y : Int32) : LV := upd (upd (upd (upd r (b + 32 + c) (r (b + 32 + c) + x)) (b + 26 + c) (r (b + 26 + c) + 1)) (b + 50 + c) (nI d)) (b + 7 + c) (if 0 < r (b + 7 + c) - y then r (b + 7 + c) - y else 0)
theorem m_tiff {M : tm_M} {r v : LV} {b c d : Nat} (hb : b ≤ 616) (hc : c < 6) (hrd : r b = nI d) (hk : ¬ M 134 c = 3) (h10 : r (b + 44 + c) = v 10) {T : LV} (hT : ∀ k, k < 6 → r (b + 1 + k) = T k) : f_X10_quarrel (tm_sr M 132 r) (nI b) (nI c) = some (tm_sr M 132 (rTiff r b c d (if sHalf d v = true then T 2 / 2 else T 2) (T 5))) := by
  have t2 := hT 2 (by decide)
  have t5 := hT 5 (by decide)
  have fin : ∀ x : Int32, ((tm_wr (tm_sr M 132 r) 132 672 ((nI b + 32) + nI c) (r (b + 32 + c) + x)).bind fun M62 => (tm_rd M62 132 672 ((nI b + 26) + nI c)).bind fun x64 => (tm_wr M62 132 672 ((nI b + 26) + nI c) (x64 + 1)).bind fun M66 => (tm_wr M66 132 672 ((nI b + 50) + nI c) (nI d)).bind fun M68 => (tm_rd M68 132 672 ((nI b + 7) + nI c)).bind fun x70 => (f_X10_termOf M68 (nI b) 5).bind fun r72 => (some (x70 - r72)).bind fun x74 => if 0 ≤ x74 then (tm_wr M68 132 672 ((nI b + 7) + nI c) x74).bind fun M76 => some M76 else (tm_wr M68 132 672 ((nI b + 7) + nI c) 0).bind fun M78 => some M78) = some (tm_sr M 132 (rTiff r b c d x (T 5))) := by
    intro x
    rw [m_wr (J := 32) (j := 32) rfl (by omega), Option.bind_some, m_rd (J := 26) (j := 26) rfl (by omega), Option.bind_some, m_wr (J := 26) (j := 26) rfl (by omega), Option.bind_some, m_wr (J := 50) (j := 50) rfl (by omega), Option.bind_some, m_rd (J := 7) (j := 7) rfl (by omega), Option.bind_some, m_term (K := 5) (k := 5) rfl hb (by decide), Option.bind_some, Option.bind_some, m_wr (J := 7) (j := 7) rfl (by omega), m_wr (J := 7) (j := 7) rfl (by omega)]
    rw [pk_un (show b + 26 + c ≠ b + 32 + c by omega), pk_un (show b + 7 + c ≠ b + 50 + c by omega), pk_un (show b + 7 + c ≠ b + 26 + c by omega), pk_un (show b + 7 + c ≠ b + 32 + c by omega), pk_un (show b + 1 + 5 ≠ b + 50 + c by omega), pk_un (show b + 1 + 5 ≠ b + 26 + c by omega), pk_un (show b + 1 + 5 ≠ b + 32 + c by omega), t5]
    unfold rTiff
    rw [← i_max]
    split <;> rfl
  unfold f_X10_quarrel
  rw [m_rk (by decide) hc, Option.bind_some, if_neg hk, m_rd (J := 44) (j := 44) rfl (by omega), Option.bind_some, m_rd00 (by omega), Option.bind_some, h10, hrd]
  unfold sHalf
  by_cases z1 : v 10 = -1
  · rw [if_pos z1, if_pos z1]
    by_cases z2 : nI d < 10
    · rw [if_pos z2, m_rd (J := 32) (j := 32) rfl (by omega), Option.bind_some, m_term (K := 2) (k := 2) rfl hb (by decide), Option.bind_some, t2, fin]
      simp [z2]
    · rw [if_neg z2, m_rd (J := 32) (j := 32) rfl (by omega), Option.bind_some, m_term (K := 2) (k := 2) rfl hb (by decide), Option.bind_some, t2, fin]
      simp [z2]
  · rw [if_neg z1, if_neg z1]
    by_cases z2 : nI d - v 10 < 10
    · rw [if_pos z2, m_rd (J := 32) (j := 32) rfl (by omega), Option.bind_some, m_term (K := 2) (k := 2) rfl hb (by decide), Option.bind_some, t2, fin]
      simp [z2]
    · rw [if_neg z2, m_rd (J := 32) (j := 32) rfl (by omega), Option.bind_some, m_term (K := 2) (k := 2) rfl hb (by decide), Option.bind_some, t2, fin]
      simp [z2]
