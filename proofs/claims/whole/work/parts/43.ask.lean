/-! WHAT IS ASKED of a couple, counts, sights -/
theorem rd_j {N : tm_M} {j c : Nat} {J : Int32} (hJ : J = nI j) (h : j + c < 672) : tm_rd N 132 672 (J + nI c) = some (N 132 (j + c)) := by
  rw [hJ, nI_add, tm_rdN h (by decide)]
theorem o_couple (x y : Int32) : oOK (fun C => (f_X9_couple C x y).bind fun r => some (r, C)) (fun N => (f_X10_couple N x y).bind fun r => some (r, N)) := by
  intro C N n hR
  rcases unk x hR with ⟨c, hc, rfl, u1, u2⟩ | ⟨u1, u2⟩
  · obtain ⟨d, hD, h7, hM⟩ := hR.cD
    have hn := hD.1
    have hc6 : c < 6 := by omega
    obtain ⟨⟨hk, h1, h2, h3, h4, h5, h6, h8, h9, h10, h11⟩, hok, -⟩ := hM.2.2.2 c hc
    have ho : tm_shp (23 + c) = 0 := yS_20.2.2.2 c hc6
    obtain ⟨k0, k4, k11⟩ := hok.k
    simp only [Nat.zero_add] at h2 h3 h4 h5 h6 h8 h9 h10
    have e1 : ∀ z, f_X1_part C (23 + c) y = some z → ((f_X9_couple C (nI c) y).bind fun r => some (r, C)) = some (z, C) := fun z hz => by
      simp only [f_X9_couple, u1, Option.bind_some, if_true]
      rw [rd_22 hc6, Option.bind_some, tm_gd_t ho, hz, Option.bind_some, Option.bind_some]
    have w2 : (fun c => C (23 + c)) c = C (23 + c) := rfl
    simp only [w2] at *
    have l : ∀ j, j + c < 672 ↔ j + c < 672 := fun _ => Iff.rfl
    by_cases z0 : y = 0
    · subst z0
      refine oo_same hR (N 134 c) (e1 _ ?_) ?_
      · rcases hk with ⟨e, q⟩ | ⟨e, q⟩ | ⟨e, q⟩ | ⟨e, q⟩ <;> simp [f_X1_part, tm_gd, ho, q, e, tm_sh1, tm_sh8, tm_sh9, tm_sh10, f_X2_number, f_X3_number, f_X4_number, f_X5_number]
      · simp [f_X10_couple, u2, tm_rdN (M := N) (o := 134) hc6 (show 6 < 2 ^ 31 by decide)]
    by_cases z1 : y = 1
    · subst z1
      refine oo_same hR (C (23 + c) 1) (e1 _ ?_) ?_
      · simp [f_X1_part, tm_gd, ho]
      · simp [f_X10_couple, u2, tm_rdN (M := N) (o := 135) hc6 (show 6 < 2 ^ 31 by decide), h1]
    by_cases z2 : y = 2
    · subst z2
      refine oo_same hR (C (23 + c) 2) (e1 _ ?_) ?_
      · simp [f_X1_part, tm_gd, ho]
      · simp [f_X10_couple, u2, rd_j (N := N) (J := 7) (j := 7) (c := c) rfl (by omega), h2]
    by_cases z3 : y = 3
    · subst z3
      refine oo_same hR (C (23 + c) 3) (e1 _ ?_) ?_
      · simp [f_X1_part, tm_gd, ho]
      · simp [f_X10_couple, u2, rd_j (N := N) (J := 13) (j := 13) (c := c) rfl (by omega), h3]
    by_cases z4 : y = 4
    · subst z4
      refine oo_same hR (C (23 + c) 4) (e1 _ ?_) ?_
      · rcases k4 with e | e <;> simp [f_X1_part, tm_gd, ho, e]
      · simp [f_X10_couple, u2, show tm_rd N 132 672 19 = some (N 132 19) from tm_rdN (k := 19) (by decide) (by decide), h4]
    by_cases z5 : y = 5
    · subst z5
      refine oo_same hR (C (23 + c) 5) (e1 _ ?_) ?_
      · simp [f_X1_part, tm_gd, ho]
      · simp [f_X10_couple, u2, rd_j (N := N) (J := 20) (j := 20) (c := c) rfl (by omega), h5]
    by_cases z6 : y = 6
    · subst z6
      refine oo_same hR (C (23 + c) 6) (e1 _ ?_) ?_
      · simp [f_X1_part, tm_gd, ho]
      · simp [f_X10_couple, u2, rd_j (N := N) (J := 26) (j := 26) (c := c) rfl (by omega), h6]
    by_cases z7 : y = 7
    · subst z7
      refine oo_same hR (C (23 + c) 8) (e1 _ ?_) ?_
      · simp [f_X1_part, tm_gd, ho]
      · simp [f_X10_couple, u2, rd_j (N := N) (J := 32) (j := 32) (c := c) rfl (by omega), h8]
    by_cases z8 : y = 8
    · subst z8
      refine oo_same hR (C (23 + c) 9) (e1 _ ?_) ?_
      · simp [f_X1_part, tm_gd, ho]
      · simp [f_X10_couple, u2, rd_j (N := N) (J := 38) (j := 38) (c := c) rfl (by omega), h9]
    by_cases z9 : y = 9
    · subst z9
      refine oo_same hR (C (23 + c) 10) (e1 _ ?_) ?_
      · simp [f_X1_part, tm_gd, ho]
      · simp [f_X10_couple, u2, rd_j (N := N) (J := 44) (j := 44) (c := c) rfl (by omega), h10]
    · refine oo_same hR (-3) (e1 _ ?_) ?_
      · simp [f_X1_part, tm_gd, ho, z0, z1, z2, z3, z4, z5, z6, z7, z8, z9]
      · simp [f_X10_couple, u2, z0, z1, z2, z3, z4, z5, z6, z7, z8, z9]
  · refine oo_same hR (-2) ?_ ?_
    · simp only [f_X9_couple, u1, Option.bind_some]
      rw [if_neg (by decide), Option.bind_some]
    · simp only [f_X10_couple, u2, Option.bind_some, if_true]
theorem o_as (x y : Int32) : oOK (fun C => (f_X9_as C x y).bind fun r => some (r, C)) (fun N => (f_X10_as N x y).bind fun r => some (r, N)) := by
  intro C N n hR
  rcases unk x hR with ⟨c, hc, rfl, u1, u2⟩ | ⟨u1, u2⟩
  · rcases in_out y (a := 0) (n := 4) (A := 0) (N := 4) rfl rfl (by decide) (by decide) with ⟨k, -, hk4, rfl, e1, e2⟩ | ⟨e1, e2⟩
    · obtain ⟨d, hD, h7, hM⟩ := hR.cD
      have hn := hD.1
      have hd := hD.2.1
      have h3 := hD.2.2.2.1
      have hc6 : c < 6 := by omega
      have ho : tm_shp (23 + c) = 0 := yS_20.2.2.2 c hc6
      have hv := (hM.2.2.2 c hc).1
      have hg := m_gain (M := N) (b := 0) (c := c) (by decide) hc6 (show d < 1100 by omega) hM.1 hv
      rw [tm_sr_self] at hg
      have hg2 : f_X10_gainOf N 0 (nI c) = some (sGain d (C (23 + c))) := hg
      have hrd := rd_22 hc6
      have hk := hv.1
      have hN := tm_rdN (M := N) (o := 134) hc6 (show 6 < 2 ^ 31 by decide)
      have hs := tm_isSun (show d < 1100 by omega)
      have gen : ∀ (z : Int32), (f_X9_as C (nI c) (nI k)) = some z → (f_X10_as N (nI c) (nI k)) = some z → ∃ (r : Int32) (C1 N1 : tm_M) (n1 : Nat), ((fun C => (f_X9_as C (nI c) (nI k)).bind fun r => some (r, C)) C) = some (r, C1) ∧ ((fun N => (f_X10_as N (nI c) (nI k)).bind fun r => some (r, N)) N) = some (r, N1) ∧ Rel C1 N1 n1 ∧ cF C C1 ∧ nF N N1 := fun z q1 q2 => oo_same hR z (by show ((f_X9_as C (nI c) (nI k)).bind fun r => some (r, C)) = _; rw [q1, Option.bind_some]) (by show ((f_X10_as N (nI c) (nI k)).bind fun r => some (r, N)) = _; rw [q2, Option.bind_some])
      have hcg : (tm_gd (¬ C (23 + c) 0 = 0) <| if tm_shp ((C (23 + c) 0).toNatClampNeg) = 1 then (f_X0_gain C ((C (23 + c) 0).toNatClampNeg) (23 + c) (nI d)).bind fun r16 => some r16 else if tm_shp ((C (23 + c) 0).toNatClampNeg) = 2 then (f_X3_gain C ((C (23 + c) 0).toNatClampNeg) (23 + c) (nI d)).bind fun r19 => some r19 else if tm_shp ((C (23 + c) 0).toNatClampNeg) = 3 then (f_X4_gain C ((C (23 + c) 0).toNatClampNeg) (23 + c) (nI d)).bind fun r22 => some r22 else if tm_shp ((C (23 + c) 0).toNatClampNeg) = 4 then (f_X5_gain C ((C (23 + c) 0).toNatClampNeg) (23 + c) (nI d)).bind fun r25 => some r25 else none) = some (sGain d (C (23 + c))) := by
        rcases hk with ⟨e, q⟩ | ⟨e, q⟩ | ⟨e, q⟩ | ⟨e, q⟩
        · simp only at q
          simp [tm_gd, q, tm_sh1, f_X0_gain, ho, sGain]
        · simp only at q
          by_cases z : C (23 + c) 11 = 0 <;> simp [tm_gd, q, tm_sh8, f_X3_gain, ho, sGain, z]
        · simp only at q
          by_cases z : d % 7 = 6 <;> simp [tm_gd, q, tm_sh9, f_X5_gain, ho, sGain, z, hs]
        · simp only at q
          simp [tm_gd, q, tm_sh10, f_X4_gain, ho, sGain]
      have hc9 : ∀ b : Int32, f_X9_isA ((C (23 + c) 0).toNatClampNeg) (nI k) = some b → (¬ C (23 + c) 0 = 0) → f_X9_as C (nI c) (nI k) = if b = 0 then some (-4) else some (sGain d (C (23 + c))) := fun b hb h0 => by
        simp only [f_X9_as, u1, Option.bind_some, if_true, e1]
        rw [hrd, Option.bind_some, tm_gd_t ho, tm_gd_t h0, hb, Option.bind_some, h3, hcg]
      rcases hk with ⟨e, q⟩ | ⟨e, q⟩ | ⟨e, q⟩ | ⟨e, q⟩ <;> simp only at q
      · rcases (show k = 0 ∨ k = 1 ∨ k = 2 ∨ k = 3 ∨ k = 4 by omega) with rfl | rfl | rfl | rfl | rfl
        · exact gen (sGain d (C (23 + c))) (by rw [hc9 1 (by rw [q]; rfl) (by rw [q]; decide)]; rfl) (by simp only [f_X10_as, u2, e2, Option.bind_some, hg2]; rfl)
        · exact gen (sGain d (C (23 + c))) (by rw [hc9 1 (by rw [q]; rfl) (by rw [q]; decide)]; rfl) (by simp only [f_X10_as, u2, e2, Option.bind_some, hg2, hN, e]; rfl)
        · exact gen (-4) (by rw [hc9 0 (by rw [q]; rfl) (by rw [q]; decide)]; rfl) (by simp only [f_X10_as, u2, e2, Option.bind_some, hg2, hN, e]; rfl)
        · exact gen (-4) (by rw [hc9 0 (by rw [q]; rfl) (by rw [q]; decide)]; rfl) (by simp only [f_X10_as, u2, e2, Option.bind_some, hg2, hN, e]; rfl)
        · exact gen (-4) (by rw [hc9 0 (by rw [q]; rfl) (by rw [q]; decide)]; rfl) (by simp only [f_X10_as, u2, e2, Option.bind_some, hg2, hN, e]; rfl)
      · rcases (show k = 0 ∨ k = 1 ∨ k = 2 ∨ k = 3 ∨ k = 4 by omega) with rfl | rfl | rfl | rfl | rfl
        · exact gen (sGain d (C (23 + c))) (by rw [hc9 1 (by rw [q]; rfl) (by rw [q]; decide)]; rfl) (by simp only [f_X10_as, u2, e2, Option.bind_some, hg2]; rfl)
        · exact gen (sGain d (C (23 + c))) (by rw [hc9 1 (by rw [q]; rfl) (by rw [q]; decide)]; rfl) (by simp only [f_X10_as, u2, e2, Option.bind_some, hg2, hN, e]; rfl)
        · exact gen (sGain d (C (23 + c))) (by rw [hc9 1 (by rw [q]; rfl) (by rw [q]; decide)]; rfl) (by simp only [f_X10_as, u2, e2, Option.bind_some, hg2, hN, e]; rfl)
        · exact gen (-4) (by rw [hc9 0 (by rw [q]; rfl) (by rw [q]; decide)]; rfl) (by simp only [f_X10_as, u2, e2, Option.bind_some, hg2, hN, e]; rfl)
        · exact gen (-4) (by rw [hc9 0 (by rw [q]; rfl) (by rw [q]; decide)]; rfl) (by simp only [f_X10_as, u2, e2, Option.bind_some, hg2, hN, e]; rfl)
      · rcases (show k = 0 ∨ k = 1 ∨ k = 2 ∨ k = 3 ∨ k = 4 by omega) with rfl | rfl | rfl | rfl | rfl
        · exact gen (sGain d (C (23 + c))) (by rw [hc9 1 (by rw [q]; rfl) (by rw [q]; decide)]; rfl) (by simp only [f_X10_as, u2, e2, Option.bind_some, hg2]; rfl)
        · exact gen (sGain d (C (23 + c))) (by rw [hc9 1 (by rw [q]; rfl) (by rw [q]; decide)]; rfl) (by simp only [f_X10_as, u2, e2, Option.bind_some, hg2, hN, e]; rfl)
        · exact gen (-4) (by rw [hc9 0 (by rw [q]; rfl) (by rw [q]; decide)]; rfl) (by simp only [f_X10_as, u2, e2, Option.bind_some, hg2, hN, e]; rfl)
        · exact gen (sGain d (C (23 + c))) (by rw [hc9 1 (by rw [q]; rfl) (by rw [q]; decide)]; rfl) (by simp only [f_X10_as, u2, e2, Option.bind_some, hg2, hN, e]; rfl)
        · exact gen (-4) (by rw [hc9 0 (by rw [q]; rfl) (by rw [q]; decide)]; rfl) (by simp only [f_X10_as, u2, e2, Option.bind_some, hg2, hN, e]; rfl)
      · rcases (show k = 0 ∨ k = 1 ∨ k = 2 ∨ k = 3 ∨ k = 4 by omega) with rfl | rfl | rfl | rfl | rfl
        · exact gen (sGain d (C (23 + c))) (by rw [hc9 1 (by rw [q]; rfl) (by rw [q]; decide)]; rfl) (by simp only [f_X10_as, u2, e2, Option.bind_some, hg2]; rfl)
        · exact gen (-4) (by rw [hc9 0 (by rw [q]; rfl) (by rw [q]; decide)]; rfl) (by simp only [f_X10_as, u2, e2, Option.bind_some, hg2, hN, e]; rfl)
        · exact gen (-4) (by rw [hc9 0 (by rw [q]; rfl) (by rw [q]; decide)]; rfl) (by simp only [f_X10_as, u2, e2, Option.bind_some, hg2, hN, e]; rfl)
        · exact gen (-4) (by rw [hc9 0 (by rw [q]; rfl) (by rw [q]; decide)]; rfl) (by simp only [f_X10_as, u2, e2, Option.bind_some, hg2, hN, e]; rfl)
        · exact gen (sGain d (C (23 + c))) (by rw [hc9 1 (by rw [q]; rfl) (by rw [q]; decide)]; rfl) (by simp only [f_X10_as, u2, e2, Option.bind_some, hg2, hN, e]; rfl)
    · refine oo_same hR (-3) ?_ ?_
      · simp only [f_X9_as, u1, Option.bind_some, if_true, e1]
        rw [if_neg (by decide), Option.bind_some]
      · simp only [f_X10_as, u2, Option.bind_some, e2, if_true]
        rw [if_neg (by decide), Option.bind_some]
  · refine oo_same hR (-2) ?_ ?_
    · simp only [f_X9_as, u1, Option.bind_some]
      rw [if_neg (by decide), Option.bind_some]
    · simp only [f_X10_as, u2, Option.bind_some, if_true]
/-- sights change, nothing else -/
theorem Rel_sights {C C' N N' : tm_M} {n : Nat} (hR : Rel C N n) (h0 : ∀ k, k ≠ 12 → C' 0 k = C 0 k) (hC : ∀ a, (0 < a ∧ a < 122) → C' a = C a) (h127 : ∀ k, k ≠ 15 → N' 127 k = N 127 k) (hN : ∀ a, a ≠ 127 → a ≠ 139 → N' a = N a) (hs : R_seen C' N' n) : Rel C' N' n := by
  obtain ⟨hn, h7, hto, hy, hp, hk, -, ht, hw⟩ := hR
  exact ⟨hn, (h127 7 (by decide)).trans h7, fr_told hn (fun a h1 h2 => hC a (by omega)) (fun a h1 h2 => hN a (by omega) (by omega)) hto,
    fr_y hn (fun a h1 h2 => hC a (by omega)) (fun a h1 h2 => hN a (by omega) (by omega)) (fun p h1 h2 => by rw [hN 132 (by decide) (by decide)]) hy,
    fr_past hn (h0 7 (by decide)) (h0 8 (by decide)) (fun a h1 h2 => hC a (by omega)) (h127 5 (by decide)) (fun a h1 h2 => hN a (by omega) (by omega)) (fun p h1 h2 => by rw [hN 132 (by decide) (by decide)]) hp,
    fr_kept hn (fun a h1 h2 => hC a (by omega)) (fun a h1 h2 => hN a (by omega) (by omega)) (fun p h1 h2 => by rw [hN 132 (by decide) (by decide)]) hk, hs,
    fr_text (by rw [hC 2 (by decide)]) (hC 3 (by decide)) (h127 13 (by decide)) (hN 138 (by decide) (by decide)) ht,
    fr_tab (fun a h1 h2 => hN a (by omega) (by omega)) hw⟩
theorem o_forget : oOK (fun C => f_X9_forget C) (fun N => f_X10_forget N) := by
  intro C N n hR
  have hs := hR.2.2.2.2.2.2.1
  obtain ⟨s, hs6, s1, s2, s3⟩ := hs
  refine ⟨nI s, tm_st C 0 12 0, tm_st N 127 15 0, n, ?_, ?_, Rel_sights hR (fun k hk => by rw [tm_sta, pk_un hk]) (fun a ha => tm_stn _ _ _ (by omega)) (fun k hk => by rw [tm_sta, pk_un hk]) (fun a h1 h2 => tm_stn _ _ _ h1) ⟨0, by decide, by rw [tm_sta, pk_us]; rfl, by rw [tm_sta, pk_us]; rfl, fun i hi => absurd hi (Nat.not_lt_zero _)⟩, fun a ha => tm_stn _ _ _ (by omega), fun a ha => tm_stn _ _ _ (by omega)⟩
  · simp only [f_X9_forget, Option.bind_some, s1]
  · simp only [f_X10_forget, Option.bind_some, s2]
theorem o_seen (x y z : Int32) : oOK (fun C => f_X9_seen C x y z) (fun N => f_X10_seen N x y z) := by
  intro C N n hR
  rcases unk x hR with ⟨c, hc, rfl, u1, u2⟩ | ⟨u1, u2⟩
  · rcases in_out y (a := 1) (n := 30) (A := 1) (N := 30) rfl rfl (by decide) (by decide) with ⟨k, -, hk, rfl, e1, e2⟩ | ⟨e1, e2⟩
    · rcases in_out z (a := 0) (n := 99) (A := 0) (N := 99) rfl rfl (by decide) (by decide) with ⟨m, -, hm, rfl, e3, e4⟩ | ⟨e3, e4⟩
      · have hs := hR.2.2.2.2.2.2.1
        obtain ⟨s, hs6, s1, s2, s3⟩ := hs
        by_cases z6 : s = 6
        · subst z6
          refine oo_same hR (-5) ?_ ?_
          · simp only [f_X9_seen, u1, e1, e3, Option.bind_some, if_true, s1]
            rw [if_neg (by decide)]
          · simp only [f_X10_seen, u2, e2, e4, Option.bind_some, s2]
            rw [if_neg (by decide), if_neg (by decide), if_neg (by decide), if_pos (by decide)]
        · have hs5 : s < 6 := by omega
          have n6 : ¬ nI s = 6 := fun e => z6 ((nI_eq (b := 6) (by omega) (by decide)).mp e)
          refine ⟨nI (s + 1), tm_st (tm_st (tm_st (tm_st C 122 s (nI c)) 123 s (nI k)) 124 s (nI m)) 0 12 (nI (s + 1)), tm_st (tm_st (tm_st (tm_st N 139 (3 * s) (nI c)) 139 (3 * s + 1) (nI k)) 139 (3 * s + 2) (nI m)) 127 15 (nI (s + 1)), n, ?_, ?_, Rel_sights hR (fun k hk => ?_) (fun a ha => ?_) (fun k hk => ?_) (fun a h1 h2 => ?_) ⟨s + 1, by omega, by rw [tm_sta, pk_us], by rw [tm_sta, pk_us], fun i hi => ?_⟩, fun a ha => ?_, fun a ha => ?_⟩
          · simp only [f_X9_seen, u1, e1, e3, Option.bind_some, if_true, s1]
            rw [if_pos (show nI s < 6 from nI_lt (b := 6) hs5 (by decide)), tm_wrN hs5 (by decide), Option.bind_some, tm_stn _ _ _ (by decide), s1, tm_wrN hs5 (by decide), Option.bind_some, tm_stn _ _ _ (by decide), tm_stn _ _ _ (by decide), s1, tm_wrN hs5 (by decide), Option.bind_some, tm_sta, pk_us, tm_stn _ _ _ (by decide), tm_stn _ _ _ (by decide), tm_stn _ _ _ (by decide), s1, nI_1]
          · simp only [f_X10_seen, u2, e2, e4, Option.bind_some, s2]
            rw [if_neg (by decide), if_neg (by decide), if_neg (by decide), if_neg n6, show (3 : Int32) * nI s = nI (3 * s) from pk_mul 3 s, tm_wrN (by omega) (by decide), Option.bind_some, tm_stn _ _ _ (by decide), s2, show (3 : Int32) * nI s = nI (3 * s) from pk_mul 3 s, nI_1, tm_wrN (by omega) (by decide), Option.bind_some, tm_stn _ _ _ (by decide), tm_stn _ _ _ (by decide), s2, show (3 : Int32) * nI s = nI (3 * s) from pk_mul 3 s, show nI (3 * s) + 2 = nI (3 * s + 2) from nI_add _ 2, tm_wrN (by omega) (by decide), Option.bind_some, tm_sta, pk_us, tm_stn _ _ _ (by decide), tm_stn _ _ _ (by decide), tm_stn _ _ _ (by decide), s2, nI_1]
          · rw [tm_sta, pk_un hk, tm_stn _ _ _ (by decide), tm_stn _ _ _ (by decide), tm_stn _ _ _ (by decide)]
          · rw [tm_stn _ _ _ (by omega), tm_stn _ _ _ (by omega), tm_stn _ _ _ (by omega), tm_stn _ _ _ (by omega)]
          · rw [tm_sta, pk_un hk, tm_stn _ _ _ (by decide), tm_stn _ _ _ (by decide), tm_stn _ _ _ (by decide)]
          · rw [tm_stn _ _ _ h1, tm_stn _ _ _ h2, tm_stn _ _ _ h2, tm_stn _ _ _ h2]
          · have a122 : tm_st (tm_st (tm_st (tm_st C 122 s (nI c)) 123 s (nI k)) 124 s (nI m)) 0 12 (nI (s + 1)) 122 = upd (C 122) s (nI c) := by rw [tm_stn _ _ _ (by decide), tm_stn _ _ _ (by decide), tm_stn _ _ _ (by decide), tm_sta]
            have a123 : tm_st (tm_st (tm_st (tm_st C 122 s (nI c)) 123 s (nI k)) 124 s (nI m)) 0 12 (nI (s + 1)) 123 = upd (C 123) s (nI k) := by rw [tm_stn _ _ _ (by decide), tm_stn _ _ _ (by decide), tm_sta, tm_stn _ _ _ (by decide)]
            have a124 : tm_st (tm_st (tm_st (tm_st C 122 s (nI c)) 123 s (nI k)) 124 s (nI m)) 0 12 (nI (s + 1)) 124 = upd (C 124) s (nI m) := by rw [tm_stn _ _ _ (by decide), tm_sta, tm_stn _ _ _ (by decide), tm_stn _ _ _ (by decide)]
            have a139 : tm_st (tm_st (tm_st (tm_st N 139 (3 * s) (nI c)) 139 (3 * s + 1) (nI k)) 139 (3 * s + 2) (nI m)) 127 15 (nI (s + 1)) 139 = upd (upd (upd (N 139) (3 * s) (nI c)) (3 * s + 1) (nI k)) (3 * s + 2) (nI m) := by rw [tm_stn _ _ _ (by decide), tm_sta, tm_sta, tm_sta]
            rw [a122, a123, a124, a139]
            by_cases e : i = s
            · subst e
              rw [pk_us, pk_us, pk_us, pk_us, pk_un (by omega), pk_un (by omega), pk_us, pk_un (by omega), pk_us]
              exact ⟨rfl, rfl, rfl, k, hk, rfl⟩
            · rw [pk_un e, pk_un e, pk_un e, pk_un (by omega), pk_un (by omega), pk_un (by omega), pk_un (by omega), pk_un (by omega), pk_un (by omega), pk_un (by omega), pk_un (by omega), pk_un (by omega)]
              exact s3 i (by omega)
          · rw [tm_stn _ _ _ (by omega), tm_stn _ _ _ (by omega), tm_stn _ _ _ (by omega), tm_stn _ _ _ (by omega)]
          · rw [tm_stn _ _ _ (by omega), tm_stn _ _ _ (by omega), tm_stn _ _ _ (by omega), tm_stn _ _ _ (by omega)]
      · refine oo_same hR (-3) ?_ ?_
        · simp only [f_X9_seen, u1, e1, e3, Option.bind_some, if_true]
          rw [if_neg (by decide)]
        · simp only [f_X10_seen, u2, e2, e4, Option.bind_some, if_true]
          rw [if_neg (by decide), if_neg (by decide)]
    · refine oo_same hR (-3) ?_ ?_
      · simp only [f_X9_seen, u1, e1, Option.bind_some, if_true]
        rw [if_neg (by decide)]
      · simp only [f_X10_seen, u2, e2, Option.bind_some, if_true]
        rw [if_neg (by decide)]
  · refine oo_same hR (-2) ?_ ?_
    · simp only [f_X9_seen, u1, Option.bind_some]
      rw [if_neg (by decide)]
    · simp only [f_X10_seen, u2, Option.bind_some, if_true]
/-! counts -/
theorem c_brk {C : tm_M} {n d : Nat} {k : Int32 → Int32 → Option Int32} (hD : cD C n d) : ∀ (j f i : Nat), i + j = n → j < f → f_X8_breaks_L4 k C 20 f (sumI (fun c => C (23 + c) 5) i) (nI i) = k (sumI (fun c => C (23 + c) 5) n) (nI n) := by
  intro j
  induction j with
  | zero =>
    intro f i hi hf
    obtain ⟨f, rfl⟩ : ∃ g, f = g + 1 := ⟨f - 1, by omega⟩
    have : i = n := by omega
    subst this
    have hn := hD.1
    rw [f_X8_breaks_L4, hD.2.2.1, if_pos (nI_le (Nat.le_refl _) (by omega))]
  | succ j ih =>
    intro f i hi hf
    obtain ⟨f, rfl⟩ : ∃ g, f = g + 1 := ⟨f - 1, by omega⟩
    have hn := hD.1
    rw [f_X8_breaks_L4, hD.2.2.1, if_neg (nI_ge (by omega) (by omega)), if_neg (show ¬ (6 : Int32) ≤ nI i from nI_ge (b := 6) (by omega) (by decide)), tm_gd_t (by decide), show (20 : Nat) + 2 = 22 from rfl, rd_22 (by omega), Option.bind_some, tm_gd_t (yS_20.2.2.2 i (by omega)), Option.bind_some, nI_1]
    exact ih f (i + 1) (by omega) (by omega)
theorem c_tif {C : tm_M} {n d : Nat} {k : Int32 → Int32 → Option Int32} (hD : cD C n d) : ∀ (j f i : Nat), i + j = n → j < f → f_X8_tiffs_L4 k C 20 f (sumI (fun c => C (23 + c) 6) i) (nI i) = k (sumI (fun c => C (23 + c) 6) n) (nI n) := by
  intro j
  induction j with
  | zero =>
    intro f i hi hf
    obtain ⟨f, rfl⟩ : ∃ g, f = g + 1 := ⟨f - 1, by omega⟩
    have : i = n := by omega
    subst this
    have hn := hD.1
    rw [f_X8_tiffs_L4, hD.2.2.1, if_pos (nI_le (Nat.le_refl _) (by omega))]
  | succ j ih =>
    intro f i hi hf
    obtain ⟨f, rfl⟩ : ∃ g, f = g + 1 := ⟨f - 1, by omega⟩
    have hn := hD.1
    rw [f_X8_tiffs_L4, hD.2.2.1, if_neg (nI_ge (by omega) (by omega)), if_neg (show ¬ (6 : Int32) ≤ nI i from nI_ge (b := 6) (by omega) (by decide)), tm_gd_t (by decide), show (20 : Nat) + 2 = 22 from rfl, rd_22 (by omega), Option.bind_some, tm_gd_t (yS_20.2.2.2 i (by omega)), Option.bind_some, nI_1]
    exact ih f (i + 1) (by omega) (by omega)
theorem c_voi {C : tm_M} {n d : Nat} {k : Int32 → Int32 → Option Int32} (hD : cD C n d) {w : Nat} (hw : w < 2 ^ n) (hb : ∀ i, i < n → w.testBit i = decide (¬ C (23 + i) 4 = 0)) : ∀ (j f i g : Nat), i + j = n → j < f → g < 2 ^ i → (∀ c, c < i → g.testBit c = w.testBit c) → f_X8_voids_L4 k C 20 f (nI g) (nI i) = k (nI w) (nI n) := by
  intro j
  induction j with
  | zero =>
    intro f i g hi hf hg hgb
    obtain ⟨f, rfl⟩ : ∃ g, f = g + 1 := ⟨f - 1, by omega⟩
    have : i = n := by omega
    subst this
    have hn := hD.1
    have e : g = w := by
      apply Nat.eq_of_testBit_eq
      intro c
      by_cases hc : c < i
      · exact hgb c hc
      · rw [Nat.testBit_lt_two_pow (Nat.lt_of_lt_of_le hg (Nat.pow_le_pow_right (by decide) (by omega))), Nat.testBit_lt_two_pow (Nat.lt_of_lt_of_le hw (Nat.pow_le_pow_right (by decide) (by omega)))]
    rw [f_X8_voids_L4, hD.2.2.1, if_pos (nI_le (Nat.le_refl _) (by omega)), e]
  | succ j ih =>
    intro f i g hi hf hg hgb
    obtain ⟨f, rfl⟩ : ∃ g, f = g + 1 := ⟨f - 1, by omega⟩
    have hn := hD.1
    have hg1 : g < 2 ^ (i + 1) := Nat.lt_of_lt_of_le hg (Nat.pow_le_pow_right (by decide) (by omega))
    rw [f_X8_voids_L4, hD.2.2.1, if_neg (nI_ge (by omega) (by omega)), if_neg (show ¬ (6 : Int32) ≤ nI i from nI_ge (b := 6) (by omega) (by decide)), tm_gd_t (by decide), show (20 : Nat) + 2 = 22 from rfl, rd_22 (by omega), Option.bind_some, tm_gd_t (yS_20.2.2.2 i (by omega)), nI_1]
    by_cases z : C (23 + i) 4 = 0
    · rw [if_pos z]
      refine ih f (i + 1) g (by omega) (by omega) hg1 (fun c hc => ?_)
      by_cases e : c = i
      · subst e
        rw [Nat.testBit_lt_two_pow hg, hb c (by omega), z]
        rfl
      · exact hgb c (by omega)
    · rw [if_neg z, Option.bind_some, bit_or g (p64 (n := i) (by omega) hg) i (by omega)]
      refine ih f (i + 1) _ (by omega) (by omega) (Nat.or_lt_two_pow hg1 (Nat.pow_lt_pow_right (by decide) (by omega))) (fun c hc => ?_)
      by_cases e : c = i
      · subst e
        rw [Nat.testBit_or, Nat.testBit_two_pow_self, Bool.or_true, hb c (by omega), decide_eq_true z]
      · rw [Nat.testBit_or, Nat.testBit_two_pow, decide_eq_false (fun q => e q.symm), Bool.or_false]
        exact hgb c (by omega)
theorem o_count (x : Int32) : oOK (fun C => f_X9_count C x) (fun N => (f_X10_count N x).bind fun r => some (r, N)) := by
  intro C N n hR
  obtain ⟨d, hD, h7, hM⟩ := hR.cD
  have hD0 := hD
  obtain ⟨hn, hd, g2, g3, -, -⟩ := hD
  obtain ⟨u, q, hu, hq, p1, p2, p3, p4⟩ := hR.2.2.2.2.1
  obtain ⟨s, hs6, s1, s2, s3⟩ := hR.2.2.2.2.2.2.1
  obtain ⟨t, ht, x1, x2, x3⟩ := hR.2.2.2.2.2.2.2.1
  have cn : ∀ z : Int32, f_X10_count N x = some z → ((fun N => (f_X10_count N x).bind fun r => some (r, N)) N) = some (z, N) := fun z hz => by
    show ((f_X10_count N x).bind fun r => some (r, N)) = _
    rw [hz, Option.bind_some]
  by_cases z0 : x = 0
  · subst z0
    exact oo_same hR (nI n) (by simp only [f_X9_count, g2]; rfl) (cn _ (by simp only [f_X10_count, h7]; rfl))
  by_cases z1 : x = 1
  · subst z1
    refine oo_same hR (nI d) (by simp only [f_X9_count, g3]; rfl) (cn _ ?_)
    simp only [f_X10_count]
    rw [if_neg (by decide), if_pos trivial, show tm_rd N 132 672 0 = some (N 132 0) from tm_rdN (k := 0) (by decide) (by decide), hM.1, Option.bind_some]
  by_cases z2 : x = 2
  · subst z2
    obtain ⟨z, v, r', k1, -, k3, -⟩ := bal_m (m := 0) hR (by decide)
    refine ⟨z, tm_sr C 125 v, N, n, ?_, cn _ ?_, Rel_sc (sc_125 C v) (scN.rf N) hR, cF_125 C v, fun _ _ => rfl⟩
    · simp only [f_X9_count]
      rw [if_neg (by decide), if_neg (by decide), if_pos trivial, show (0 : Int32) = nI 0 from rfl, k1, Option.bind_some]
    · simp only [f_X10_count]
      rw [if_neg (by decide), if_neg (by decide), if_pos trivial]
      exact k3 rfl
  have hD := hD0
  by_cases z3 : x = 3
  · subst z3
    refine oo_same hR (sumI (fun c => C (23 + c) 5) n) ?_ (cn _ ?_)
    · simp only [f_X9_count, f_X8_breaks]
      rw [if_neg (by decide), if_neg (by decide), if_neg (by decide), if_pos trivial, tm_gd_t (by decide)]
      have := c_brk (k := fun v9 v10 => some v9) hD n 1000 0 (by omega) (by omega)
      rw [show f_X8_breaks_L4 (fun v9 v10 => some v9) C 20 1000 0 0 = _ from this, Option.bind_some]
    · simp only [f_X10_count]
      have := m_sumOf (N := N) (r := N 132) (b := 0) (w := 20) (W := 20) rfl hn h7 (by omega)
      rw [tm_sr_self] at this
      rw [if_neg (by decide), if_neg (by decide), if_neg (by decide), if_pos trivial, show (0 : Int32) = nI 0 from rfl, this, Option.bind_some, sumI_c (g := fun c => C (23 + c) 5) (fun c hc => (hM.2.2.2 c hc).1.2.2.2.2.2.1)]
  by_cases z4 : x = 4
  · subst z4
    refine oo_same hR (sumI (fun c => C (23 + c) 6) n) ?_ (cn _ ?_)
    · simp only [f_X9_count, f_X8_tiffs]
      rw [if_neg (by decide), if_neg (by decide), if_neg (by decide), if_neg (by decide), if_pos trivial, tm_gd_t (by decide)]
      have := c_tif (k := fun v9 v10 => some v9) hD n 1000 0 (by omega) (by omega)
      rw [show f_X8_tiffs_L4 (fun v9 v10 => some v9) C 20 1000 0 0 = _ from this, Option.bind_some]
    · simp only [f_X10_count]
      have := m_sumOf (N := N) (r := N 132) (b := 0) (w := 26) (W := 26) rfl hn h7 (by omega)
      rw [tm_sr_self] at this
      rw [if_neg (by decide), if_neg (by decide), if_neg (by decide), if_neg (by decide), if_pos trivial, show (0 : Int32) = nI 0 from rfl, this, Option.bind_some, sumI_c (g := fun c => C (23 + c) 6) (fun c hc => (hM.2.2.2 c hc).1.2.2.2.2.2.2.1)]
  by_cases z5 : x = 5
  · subst z5
    obtain ⟨w, hw, hw2⟩ := hM.2.2.1
    have hbit : ∀ i, i < n → w.testBit i = decide (¬ C (23 + i) 4 = 0) := fun i hi => by
      have e4 : (N 132 (0 + 19) >>> (nI i &&& 31)) &&& 1 = C (23 + i) 4 := (hM.2.2.2 i hi).1.2.2.2.2.1
      rw [hw2, bit_at w (p64 hn hw) i (by omega)] at e4
      by_cases z : w.testBit i = true
      · rw [if_pos z] at e4
        rw [z, ← e4]
        rfl
      · rw [if_neg z] at e4
        rw [← e4, Bool.not_eq_true _ |>.mp z]
        rfl
    refine oo_same hR (nI w) ?_ (cn _ ?_)
    · simp only [f_X9_count, f_X8_voids]
      rw [if_neg (by decide), if_neg (by decide), if_neg (by decide), if_neg (by decide), if_neg (by decide), if_pos trivial, tm_gd_t (by decide)]
      have := c_voi (k := fun v9 v10 => some v9) hD hw hbit n 1000 0 0 (by omega) (by omega) (by decide) (fun c hc => absurd hc (Nat.not_lt_zero _))
      rw [show f_X8_voids_L4 (fun v9 v10 => some v9) C 20 1000 0 0 = _ from this, Option.bind_some]
    · simp only [f_X10_count]
      rw [if_neg (by decide), if_neg (by decide), if_neg (by decide), if_neg (by decide), if_neg (by decide), if_pos trivial, show tm_rd N 132 672 19 = some (N 132 19) from tm_rdN (k := 19) (by decide) (by decide), Option.bind_some]
      exact congrArg some hw2
  by_cases z6 : x = 6
  · subst z6
    exact oo_same hR (nI s) (by simp only [f_X9_count, s1]; rfl) (cn _ (by simp only [f_X10_count, s2]; rfl))
  by_cases z7 : x = 7
  · subst z7
    exact oo_same hR (nI u) (by simp only [f_X9_count, p2]; rfl) (cn _ (by simp only [f_X10_count, p1]; rfl))
  by_cases z8 : x = 8
  · subst z8
    exact oo_same hR (nI t) (by simp only [f_X9_count, x1]; rfl) (cn _ (by simp only [f_X10_count, x2]; rfl))
  · exact oo_same hR (-3) (by simp only [f_X9_count, if_neg z0, if_neg z1, if_neg z2, if_neg z3, if_neg z4, if_neg z5, if_neg z6, if_neg z7, if_neg z8]) (cn _ (by simp only [f_X10_count, if_neg z0, if_neg z1, if_neg z2, if_neg z3, if_neg z4, if_neg z5, if_neg z6, if_neg z7, if_neg z8]))
