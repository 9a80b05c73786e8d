theorem bit_keep {w w2 c c2 : Nat} (hw : w < 64) (hw2 : w2 < 64) (hc2 : c2 < 6) (hne : c2 ≠ c) (h : w2 = w ∨ w2 = w ||| 2 ^ c) : (nI w2 >>> (nI c2 &&& 31)) &&& 1 = (nI w >>> (nI c2 &&& 31)) &&& 1 := by
  rw [bit_at w2 hw2 c2 hc2, bit_at w hw c2 hc2]
  rcases h with h | h
  · rw [h]
  · have e : w2.testBit c2 = w.testBit c2 := by
      rw [h, Nat.testBit_or, Nat.testBit_two_pow, decide_eq_false (fun z => hne z.symm), Bool.or_false]
    rw [e]
theorem rPass_other {M : tm_M} {T v r u : LV} {b c c2 d w : Nat} {td : Int32} (hc : c < 6) (hc2 : c2 < 6) (hne : c2 ≠ c) (hw : w < 64) (hr : r (b + 19) = nI w) (h : vR M r b c2 td u) : vR M (rPass T v r b c d) b c2 td u := by
  obtain ⟨hk, h1, h2, h3, h4, h5, h6, h8, h9, h10, h11⟩ := h
  obtain ⟨w2, hw2, e2, h19⟩ := rPass_w (T := T) (v := v) (d := d) hc hw hr
  have ne : ∀ j, j = 7 ∨ j = 13 ∨ j = 20 ∨ j = 26 ∨ j = 32 ∨ j = 38 ∨ j = 44 ∨ j = 50 → rPass T v r b c d (b + j + c2) = r (b + j + c2) := fun j hj => rPass_ne (by omega) (by omega) (by omega) (by omega) (by omega) (by omega) (by omega) (by omega) (by omega)
  refine ⟨hk, h1, ?_, ?_, ?_, ?_, ?_, ?_, ?_, ?_, ?_⟩
  · rw [ne 7 (by decide)]; exact h2
  · rw [ne 13 (by decide)]; exact h3
  · rw [e2, bit_keep hw hw2 hc2 hne h19, ← hr]; exact h4
  · rw [ne 20 (by decide)]; exact h5
  · rw [ne 26 (by decide)]; exact h6
  · rw [ne 32 (by decide)]; exact h8
  · rw [ne 38 (by decide)]; exact h9
  · rw [ne 44 (by decide)]; exact h10
  · rw [ne 50 (by decide)]; exact h11
/-- the day of couple c's last tiff is behind day d -/
def tfOK (r : LV) (b c d : Nat) : Prop := r (b + 50 + c) = -1 ∨ ∃ t, t < d ∧ r (b + 50 + c) = nI t
theorem tf_0 {r : LV} {b c d : Nat} (hd : d < 1100) (h : tfOK r b c d) : (0 : Int32) = (if r (b + 50 + c) = -1 then 0 else if r (b + 50 + c) = nI d then 1 else 0) := by
  rcases h with h | ⟨t, ht, h⟩
  · rw [if_pos h]
  · by_cases z : r (b + 50 + c) = -1
    · rw [if_pos z]
    · rw [if_neg z, if_neg]
      rw [h]
      intro e
      have := (nI_eq (by omega) (by omega)).mp e
      omega
theorem nI_nm1 {d : Nat} (hd : d < 1100) : ¬ nI d = -1 := by
  intro e
  have h := nI_pos (n := d) (by omega)
  rw [e] at h
  exact h (by decide)
theorem tf_other {T v r : LV} {b c c2 d e : Nat} (hc : c < 6) (hc2 : c2 < 6) (hne : c2 ≠ c) (h : tfOK r b c2 e) : tfOK (rPass T v r b c d) b c2 e := by
  unfold tfOK
  rw [rPass_ne (by omega) (by omega) (by omega) (by omega) (by omega) (by omega) (by omega) (by omega) (by omega)]
  exact h
theorem tf_self {T v r : LV} {b c d : Nat} (hc : c < 6) (h : tfOK r b c d) : tfOK (rPass T v r b c d) b c (d + 1) := by
  have h1 : tfOK r b c (d + 1) := h.elim Or.inl (fun ⟨t, ht, e⟩ => Or.inr ⟨t, by omega, e⟩)
  have hx : ∀ x : LV, x (b + 50 + c) = r (b + 50 + c) → tfOK x b c (d + 1) := fun x e => by unfold tfOK; rw [e]; exact h1
  unfold rPass rSulk rTiff rBreak
  split
  · split
    · exact hx _ (by rw [pk_un (by omega), pk_un (by omega)])
    · split
      · exact hx _ (by rw [pk_un (by omega), pk_un (by omega), pk_un (by omega)])
      · exact Or.inr ⟨d, by omega, by rw [pk_un (by omega), pk_us]⟩
  · exact hx _ (by rw [pk_un (by omega), pk_un (by omega), pk_un (by omega), pk_un (by omega), pk_un (by omega), pk_un (by omega)])
theorem rPass_self {M : tm_M} {T v r : LV} {b c d w : Nat} (hc : c < 6) (hd : d < 1100) (hw : w < 64) (hr : r (b + 19) = nI w) (htf : tfOK r b c d) (hok : vOK d v) (h : vR M r b c (nI d - 1) v) : vR M (rPass T v r b c d) b c (nI d) (sPass T d v) := by
  obtain ⟨hk, h1, h2, h3, h4, h5, h6, h8, h9, h10, h11⟩ := h
  obtain ⟨-, h41, -, ⟨s, hs, e3, h34⟩, -⟩ := hok
  have t0 := tf_0 hd htf
  have g0 : sDay1 d v 0 = v 0 := rfl
  have g1 : sDay1 d v 1 = v 1 := rfl
  have g3 : sDay1 d v 3 = v 3 := rfl
  have g4 : sDay1 d v 4 = v 4 := rfl
  have g5 : sDay1 d v 5 = v 5 := rfl
  have g6 : sDay1 d v 6 = v 6 := rfl
  have g8 : sDay1 d v 8 = v 8 := rfl
  have g9 : sDay1 d v 9 = v 9 := rfl
  have g10 : sDay1 d v 10 = v 10 := rfl
  have g11 : sDay1 d v 11 = 0 := rfl
  unfold rPass sPass
  generalize sDay1 d v = u at g0 g1 g3 g4 g5 g6 g8 g9 g10 g11 ⊢
  by_cases q1 : u 2 < T 4
  · rw [if_pos q1, if_pos q1]
    by_cases q2 : u 2 < T 3
    · rw [if_pos q2, if_pos q2]
      refine ⟨?_, ?_, ?_, ?_, ?_, ?_, ?_, ?_, ?_, ?_, ?_⟩
      · show sKd (M 134 c) (u 0); rw [g0]; exact hk
      · show M 135 c = u 1; rw [g1]; exact h1
      · show _ = u 2; rw [pk_un (by omega), pk_us]
      · rw [pk_us]; rfl
      · show _ = u 4; rw [pk_un (by omega), pk_un (by omega), g4]; exact h4
      · show _ = u 5; rw [pk_un (by omega), pk_un (by omega), g5]; exact h5
      · show _ = u 6; rw [pk_un (by omega), pk_un (by omega), g6]; exact h6
      · show _ = u 8; rw [pk_un (by omega), pk_un (by omega), g8]; exact h8
      · show _ = u 9; rw [pk_un (by omega), pk_un (by omega), g9]; exact h9
      · show _ = u 10; rw [pk_un (by omega), pk_un (by omega), g10]; exact h10
      · show u 11 = _; rw [pk_un (by omega), pk_un (by omega), g11]; exact t0
    · rw [if_neg q2, if_neg q2]
      by_cases q3 : v 0 = 10
      · rw [if_pos q3, if_pos q3]
        have r7 : upd r (b + 7 + c) (u 2) (b + 7 + c) = u 2 := pk_us
        have rn : ∀ p, p ≠ b + 7 + c → upd r (b + 7 + c) (u 2) p = r p := fun p hp => pk_un hp
        generalize upd r (b + 7 + c) (u 2) = r1 at r7 rn ⊢
        have a13 : r1 (b + 13 + c) = nI s := by rw [rn _ (by omega), h3, e3]
        have a19 : r1 (b + 19) = nI w := by rw [rn _ (by omega), hr]
        have e31 : u 3 + 1 = nI (s + 1) := by rw [g3, e3]; exact nI_1 s
        have hsl : ∀ k, k ≠ 3 → k ≠ 4 → sSulk u k = u k := by
          intro k k3 k4
          unfold sSulk
          split
          · exact pk_un k3
          · rw [pk_un k4, pk_un k3]
        have rs : ∀ p, p ≠ b + 7 + c → p ≠ b + 13 + c → p ≠ b + 19 → rSulk r1 b c p = r p := fun p p7 p13 p19 => by
          unfold rSulk
          rw [pk_un p19, pk_un p13, rn p p7]
        refine ⟨?_, ?_, ?_, ?_, ?_, ?_, ?_, ?_, ?_, ?_, ?_⟩
        · rw [hsl 0 (by decide) (by decide), g0]; exact hk
        · rw [hsl 1 (by decide) (by decide), g1]; exact h1
        · rw [hsl 2 (by decide) (by decide)]
          unfold rSulk
          rw [pk_un (by omega), pk_un (by omega)]; exact r7
        · have e : sSulk u 3 = u 3 + 1 := by
            unfold sSulk
            split
            · exact pk_us
            · rw [pk_un (by decide)]; exact pk_us
          rw [e]
          unfold rSulk
          rw [pk_un (by omega), pk_us, a13, e31, nI_1]
        · unfold rSulk
          rw [pk_us, a13, a19, nI_1]
          have h4w : (nI w >>> (nI c &&& 31)) &&& 1 = v 4 := by rw [← hr]; exact h4
          unfold sSulk
          rw [e31]
          by_cases z1 : s + 1 < 3
          · have n3 : ¬ nI (s + 1) = 3 := fun e => by have := (nI_eq (b := 3) (by omega) (by decide)).mp e; omega
            rw [if_neg n3, i_or0, h4w, if_pos (show nI (s + 1) < 3 from nI_lt (b := 3) z1 (by decide))]
            show v 4 = u 4
            exact g4.symm
          · rw [if_neg (show ¬ nI (s + 1) < 3 from nI_nlt (b := 3) (by omega) (by omega))]
            show _ = (1 : Int32)
            by_cases z2 : s + 1 = 3
            · rw [if_pos (show nI (s + 1) = 3 by rw [z2]; rfl), bit_or w hw c hc, bit_at _ (Nat.or_lt_two_pow (n := 6) hw (Nat.pow_lt_pow_right (by decide) hc)) c hc, Nat.testBit_or, Nat.testBit_two_pow_self, Bool.or_true, if_pos rfl]
            · have n3 : ¬ nI (s + 1) = 3 := fun e => by have := (nI_eq (b := 3) (by omega) (by decide)).mp e; omega
              rw [if_neg n3, i_or0, h4w]
              exact h34 (by omega)
        · rw [hsl 5 (by decide) (by decide), rs _ (by omega) (by omega) (by omega), g5]; exact h5
        · rw [hsl 6 (by decide) (by decide), rs _ (by omega) (by omega) (by omega), g6]; exact h6
        · rw [hsl 8 (by decide) (by decide), rs _ (by omega) (by omega) (by omega), g8]; exact h8
        · rw [hsl 9 (by decide) (by decide), rs _ (by omega) (by omega) (by omega), g9]; exact h9
        · rw [hsl 10 (by decide) (by decide), rs _ (by omega) (by omega) (by omega), g10]; exact h10
        · rw [hsl 11 (by decide) (by decide), rs _ (by omega) (by omega) (by omega), g11]; exact t0
      · rw [if_neg q3, if_neg q3]
        have r7 : upd r (b + 7 + c) (u 2) (b + 7 + c) = u 2 := pk_us
        have rn : ∀ p, p ≠ b + 7 + c → upd r (b + 7 + c) (u 2) p = r p := fun p hp => pk_un hp
        generalize upd r (b + 7 + c) (u 2) = r1 at r7 rn ⊢
        have rs : ∀ x y p, p ≠ b + 7 + c → p ≠ b + 32 + c → p ≠ b + 26 + c → p ≠ b + 50 + c → rTiff r1 b c d x y p = r p := fun x y p p7 p32 p26 p50 => by
          unfold rTiff
          rw [pk_un p7, pk_un p50, pk_un p26, pk_un p32, rn p p7]
        have hsl : ∀ k, k ≠ 2 → k ≠ 6 → k ≠ 7 → k ≠ 8 → k ≠ 11 → sTiff T d u k = u k := by
          intro k k2 k6 k7 k8 k11
          unfold sTiff
          rw [pk_un k2, pk_un k11, pk_un k6, pk_un k8]
          split
          · exact pk_un k7
          · rfl
        refine ⟨?_, ?_, ?_, ?_, ?_, ?_, ?_, ?_, ?_, ?_, ?_⟩
        · rw [hsl 0 (by decide) (by decide) (by decide) (by decide) (by decide), g0]; exact hk
        · rw [hsl 1 (by decide) (by decide) (by decide) (by decide) (by decide), g1]; exact h1
        · unfold rTiff sTiff
          rw [pk_us, pk_us, r7]
        · rw [hsl 3 (by decide) (by decide) (by decide) (by decide) (by decide), rs _ _ _ (by omega) (by omega) (by omega) (by omega), g3]; exact h3
        · rw [hsl 4 (by decide) (by decide) (by decide) (by decide) (by decide), rs _ _ _ (by omega) (by omega) (by omega) (by omega), g4]; exact h4
        · rw [hsl 5 (by decide) (by decide) (by decide) (by decide) (by decide), rs _ _ _ (by omega) (by omega) (by omega) (by omega), g5]; exact h5
        · unfold rTiff sTiff
          rw [pk_un (by omega), pk_un (by omega), pk_us, rn _ (by omega), pk_un (by decide), pk_un (by decide), pk_us, g6, h6]
        · unfold rTiff sTiff
          rw [pk_un (by omega), pk_un (by omega), pk_un (by omega), pk_us, rn _ (by omega), pk_un (by decide), pk_un (by decide), pk_un (by decide), pk_us, g8, h8]
        · rw [hsl 9 (by decide) (by decide) (by decide) (by decide) (by decide), rs _ _ _ (by omega) (by omega) (by omega) (by omega), g9]; exact h9
        · rw [hsl 10 (by decide) (by decide) (by decide) (by decide) (by decide), rs _ _ _ (by omega) (by omega) (by omega) (by omega), g10]; exact h10
        · unfold rTiff sTiff
          rw [pk_un (by decide), pk_us, pk_un (by omega), pk_us, if_neg (nI_nm1 hd), if_pos rfl]
  · rw [if_neg q1, if_neg q1]
    have r7 : upd r (b + 7 + c) (u 2) (b + 7 + c) = u 2 := pk_us
    have rn : ∀ p, p ≠ b + 7 + c → upd r (b + 7 + c) (u 2) p = r p := fun p hp => pk_un hp
    generalize upd r (b + 7 + c) (u 2) = r1 at r7 rn ⊢
    have rs : ∀ x p, p ≠ b + 7 + c → p ≠ b + 13 + c → p ≠ b + 38 + c → p ≠ b + 20 + c → p ≠ b + 44 + c → rBreak r1 b c d x p = r p := fun x p p7 p13 p38 p20 p44 => by
      unfold rBreak
      rw [pk_un p13, pk_un p7, pk_un p44, pk_un p20, pk_un p38, rn p p7]
    have hsl : ∀ k, k ≠ 9 → k ≠ 5 → k ≠ 10 → k ≠ 2 → k ≠ 3 → sBreak T d u k = u k := by
      intro k k9 k5 k10 k2 k3
      unfold sBreak
      rw [pk_un k3, pk_un k2, pk_un k10, pk_un k5]
      split
      · exact pk_un k9
      · rfl
    refine ⟨?_, ?_, ?_, ?_, ?_, ?_, ?_, ?_, ?_, ?_, ?_⟩
    · rw [hsl 0 (by decide) (by decide) (by decide) (by decide) (by decide), g0]; exact hk
    · rw [hsl 1 (by decide) (by decide) (by decide) (by decide) (by decide), g1]; exact h1
    · unfold rBreak sBreak
      rw [pk_un (by omega), pk_us, pk_un (by decide), pk_us]
    · unfold rBreak sBreak
      rw [pk_us, pk_us]
    · rw [hsl 4 (by decide) (by decide) (by decide) (by decide) (by decide), rs _ _ (by omega) (by omega) (by omega) (by omega) (by omega), g4]; exact h4
    · unfold rBreak sBreak
      rw [pk_un (by omega), pk_un (by omega), pk_un (by omega), pk_us, rn _ (by omega), pk_un (by decide), pk_un (by decide), pk_un (by decide), pk_us, g5, h5]
    · rw [hsl 6 (by decide) (by decide) (by decide) (by decide) (by decide), rs _ _ (by omega) (by omega) (by omega) (by omega) (by omega), g6]; exact h6
    · rw [hsl 8 (by decide) (by decide) (by decide) (by decide) (by decide), rs _ _ (by omega) (by omega) (by omega) (by omega) (by omega), g8]; exact h8
    · unfold rBreak sBreak
      rw [pk_un (by omega), pk_un (by omega), pk_un (by omega), pk_un (by omega), pk_us, rn _ (by omega), pk_un (by decide), pk_un (by decide), pk_un (by decide), pk_un (by decide), h9, ← g9]
      split
      · exact pk_us.symm
      · exact tm_i_lit _
    · unfold rBreak sBreak
      rw [pk_un (by omega), pk_un (by omega), pk_us, pk_un (by decide), pk_un (by decide), pk_us]
    · rw [hsl 11 (by decide) (by decide) (by decide) (by decide) (by decide), rs _ _ (by omega) (by omega) (by omega) (by omega) (by omega), g11]; exact t0
