def rPass (T v r : LV) (b c d : Nat) : LV :=
  if sDay1 d v 2 < T 4 then
    (if sDay1 d v 2 < T 3 then upd (upd r (b + 7 + c) (sDay1 d v 2)) (b + 13 + c) 0
     else if v 0 = 10 then rSulk (upd r (b + 7 + c) (sDay1 d v 2)) b c
     else rTiff (upd r (b + 7 + c) (sDay1 d v 2)) b c d (if sHalf d (sDay1 d v) = true then T 2 / 2 else T 2) (T 5))
  else rBreak (upd r (b + 7 + c) (sDay1 d v 2)) b c d (if sDay1 d v 4 = 0 ∧ (sDay1 d v 0 = 9 → d % 7 = 6) then sClaim T (sDay1 d v) else 0)
theorem m_step {k : Int32 → Int32 → tm_M → Option (Int32 × tm_M)} {M : tm_M} {T r v : LV} {b c d nn n : Nat} {v2 : Int32} (hb : b ≤ 616) (hc : c < nn) (hnn : nn ≤ 6) (hM : M 127 7 = nI nn) (hd : d < 1100) (hrd : r b = nI d) (hv : vR M r b c (nI d - 1) v) (h41 : v 4 = 0 ∨ v 4 = 1) (hT : ∀ k, k < 6 → r (b + 1 + k) = T k) :
    f_X10_pass_L4 k (nI b) (n + 1) v2 (nI c) (tm_sr M 132 r) = f_X10_pass_L4 k (nI b) n (if sFlag T d v = 0 then v2 else v2 ||| (1 <<< (nI c &&& 31))) (nI (c + 1)) (tm_sr M 132 (rPass T v r b c d)) := by
  have hc6 : c < 6 := by omega
  have hv0 := hv
  obtain ⟨hk, h1, h2, h3, h4, h5, h6, h8, h9, h10, h11⟩ := hv
  rw [f_X10_pass_L4, tm_sr_ne _ _ (show (127 : Nat) ≠ 132 by decide), hM, if_neg (nI_ge hc (by omega)), m_gain hb hc6 hd hrd hv0, Option.bind_some, m_more hb hc6, Option.bind_some, h2, nI_1]
  have e2 : (if v 2 + sGain d v < 99 then v 2 + sGain d v else 99) = sDay1 d v 2 := rfl
  rw [e2]
  have g0 : sDay1 d v 0 = v 0 := rfl
  have g4 : sDay1 d v 4 = v 4 := rfl
  have g10 : sDay1 d v 10 = v 10 := rfl
  have hf : sFlag T d v = if sDay1 d v 2 < T 4 then 0 else 1 := rfl
  unfold rPass
  rw [hf]
  generalize sDay1 d v = w at g0 g4 g10 ⊢
  have hT1 : ∀ k, k < 6 → upd r (b + 7 + c) (w 2) (b + 1 + k) = T k := fun k hk => by rw [pk_un (by omega)]; exact hT k hk
  have hr1 : upd r (b + 7 + c) (w 2) b = nI d := by rw [pk_un (by omega)]; exact hrd
  have h4' : (upd r (b + 7 + c) (w 2) (b + 19) >>> (nI c &&& 31)) &&& 1 = w 4 := by rw [pk_un (by omega), g4]; exact h4
  have h10' : upd r (b + 7 + c) (w 2) (b + 44 + c) = w 10 := by rw [pk_un (by omega), g10]; exact h10
  have h7' : upd r (b + 7 + c) (w 2) (b + 7 + c) = w 2 := pk_us
  generalize upd r (b + 7 + c) (w 2) = r1 at hT1 hr1 h4' h10' h7' ⊢
  rw [m_rd (J := 7) (j := 7) rfl (by omega), Option.bind_some, h7', m_term (K := 4) (k := 4) rfl hb (by decide), Option.bind_some, hT1 4 (by decide)]
  by_cases q1 : w 2 < T 4
  · rw [if_pos q1, if_pos q1, if_pos q1, if_pos rfl, m_term (K := 3) (k := 3) rfl hb (by decide), Option.bind_some, hT1 3 (by decide)]
    by_cases q2 : w 2 < T 3
    · rw [if_pos q2, if_pos q2, m_wr (J := 13) (j := 13) rfl (by omega), Option.bind_some]
    · rw [if_neg q2, if_neg q2]
      by_cases q3 : v 0 = 10
      · have e3 : M 134 c = 3 := by
          rcases hk with ⟨e, q⟩ | ⟨e, q⟩ | ⟨e, q⟩ | ⟨e, q⟩
          · rw [q] at q3; exact absurd q3 (by decide)
          · rw [q] at q3; exact absurd q3 (by decide)
          · rw [q] at q3; exact absurd q3 (by decide)
          · exact e
        rw [if_pos q3, m_sulk hb hc6 e3, Option.bind_some]
      · have e3 : ¬ M 134 c = 3 := by
          rcases hk with ⟨e, q⟩ | ⟨e, q⟩ | ⟨e, q⟩ | ⟨e, q⟩
          · rw [e]; decide
          · rw [e]; decide
          · rw [e]; decide
          · exact absurd q q3
        rw [if_neg q3, m_tiff (v := w) hb hc6 hr1 e3 h10' hT1, Option.bind_some]
  · rw [if_neg q1, if_neg q1, if_neg q1, if_neg (by decide), m_break (v := w) hb hc6 hd hr1 (by rw [g0]; exact hk) h7' h4' (by rw [g4]; exact h41) hT1, Option.bind_some, Option.bind_some]
/-- where the row doesn't change -/
theorem rPass_ne {T v r : LV} {b c d p : Nat} (h7 : p ≠ b + 7 + c) (h13 : p ≠ b + 13 + c) (h19 : p ≠ b + 19) (h20 : p ≠ b + 20 + c) (h26 : p ≠ b + 26 + c) (h32 : p ≠ b + 32 + c) (h38 : p ≠ b + 38 + c) (h44 : p ≠ b + 44 + c) (h50 : p ≠ b + 50 + c) : rPass T v r b c d p = r p := by
  unfold rPass rSulk rTiff rBreak
  split
  · split
    · rw [pk_un h13, pk_un h7]
    · split
      · rw [pk_un h19, pk_un h13, pk_un h7]
      · rw [pk_un h7, pk_un h50, pk_un h26, pk_un h32, pk_un h7]
  · rw [pk_un h13, pk_un h7, pk_un h44, pk_un h20, pk_un h38, pk_un h7]
/-- the word of who is void -/
theorem rPass_w {T v r : LV} {b c d w : Nat} (hc : c < 6) (hw : w < 64) (hr : r (b + 19) = nI w) : ∃ w2, w2 < 64 ∧ rPass T v r b c d (b + 19) = nI w2 ∧ ((w2 = w) ∨ (w2 = w ||| 2 ^ c)) := by
  have up : ∀ (f : LV) (j : Nat) (x : Int32), j ≠ 19 → (∀ z, b + 19 = b + j + c → z) → upd f (b + j + c) x (b + 19) = f (b + 19) := fun f j x _ h => pk_un (fun e => h False e)
  unfold rPass rSulk rTiff rBreak
  split
  · split
    · exact ⟨w, hw, by rw [pk_un (by omega), pk_un (by omega)]; exact hr, Or.inl rfl⟩
    · split
      · rw [pk_us]
        split
        · refine ⟨w ||| 2 ^ c, Nat.or_lt_two_pow (n := 6) hw (Nat.pow_lt_pow_right (by decide) hc), ?_, Or.inr rfl⟩
          rw [pk_un (show b + 19 ≠ b + 7 + c by omega), hr]
          exact bit_or w hw c hc
        · refine ⟨w, hw, ?_, Or.inl rfl⟩
          rw [pk_un (show b + 19 ≠ b + 7 + c by omega), hr, i_or0]
      · exact ⟨w, hw, by rw [pk_un (by omega), pk_un (by omega), pk_un (by omega), pk_un (by omega), pk_un (by omega)]; exact hr, Or.inl rfl⟩
  · exact ⟨w, hw, by rw [pk_un (by omega), pk_un (by omega), pk_un (by omega), pk_un (by omega), pk_un (by omega), pk_un (by omega)]; exact hr, Or.inl rfl⟩
