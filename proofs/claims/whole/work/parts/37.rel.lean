/-! THE RELATION: the class's cells (C, below 127) and the reference's (N, from 127 on) tell the same -/
theorem vR_c {M M' : tm_M} {r r' v w : LV} {b b' c : Nat} {td : Int32} (h134 : M' 134 c = M 134 c) (h135 : M' 135 c = M 135 c) (hr : ∀ j, j < 56 → r' (b' + j) = r (b + j)) (hc : c < 6) (hv : lEq w v) (h : vR M r b c td v) : vR M' r' b' c td w := by
  have e : ∀ j, j + c < 56 → r' (b' + j + c) = r (b + j + c) := fun j hj => by rw [Nat.add_assoc, hr _ hj, Nat.add_assoc]
  obtain ⟨hk, h1, h2, h3, h4, h5, h6, h8, h9, h10, h11⟩ := h
  refine ⟨?_, ?_, ?_, ?_, ?_, ?_, ?_, ?_, ?_, ?_, ?_⟩
  · rw [h134, hv 0 (by decide)]; exact hk
  · rw [h135, hv 1 (by decide)]; exact h1
  · rw [e 7 (by omega), hv 2 (by decide)]; exact h2
  · rw [e 13 (by omega), hv 3 (by decide)]; exact h3
  · rw [hr 19 (by omega), hv 4 (by decide)]; exact h4
  · rw [e 20 (by omega), hv 5 (by decide)]; exact h5
  · rw [e 26 (by omega), hv 6 (by decide)]; exact h6
  · rw [e 32 (by omega), hv 8 (by decide)]; exact h8
  · rw [e 38 (by omega), hv 9 (by decide)]; exact h9
  · rw [e 44 (by omega), hv 10 (by decide)]; exact h10
  · rw [e 50 (by omega), hv 11 (by decide)]; exact h11
theorem mD_mv {M M' : tm_M} {r r' T T' : LV} {V V' : Nat → LV} {b b' n d : Nat} (hn : n ≤ 6) (h134 : ∀ c, c < n → M' 134 c = M 134 c) (h135 : ∀ c, c < n → M' 135 c = M 135 c) (hr : ∀ j, j < 56 → r' (b' + j) = r (b + j)) (hT : ∀ k, k < 6 → T' k = T k) (hV : ∀ c, c < n → lEq (V' c) (V c)) (h : mD M r b n d T V) : mD M' r' b' n d T' V' := by
  obtain ⟨h1, h2, ⟨w, hw, h3⟩, h4⟩ := h
  refine ⟨(hr 0 (by decide)).trans h1, fun k hk => ?_, ⟨w, hw, by rw [hr 19 (by decide)]; exact h3⟩, fun c hc => ?_⟩
  · rw [Nat.add_assoc, hr _ (by omega), ← Nat.add_assoc, hT k hk]
    exact h2 k hk
  · obtain ⟨q1, q2, q3⟩ := h4 c hc
    refine ⟨vR_c (h134 c hc) (h135 c hc) hr (by omega) (hV c hc) q1, vOK_c (hV c hc).sy q2, ?_⟩
    unfold tfOK
    rw [Nat.add_assoc, hr _ (by omega), ← Nat.add_assoc]
    exact q3
theorem tOK_c {T T' : LV} (h : ∀ k, k < 6 → T' k = T k) (hT : tOK T) : tOK T' := by
  unfold tOK at hT ⊢
  rw [h 0 (by decide), h 1 (by decide), h 2 (by decide), h 5 (by decide)]
  exact hT
/-- the year at y is the desk at b -/
def yR (C N : tm_M) (y b n : Nat) : Prop := ∃ d, d ≤ 999 ∧ C y 2 = nI n ∧ C y 3 = nI d ∧ tOK (C (y + 1)) ∧ mD N (N 132) b n d (C (y + 1)) (fun c => C (y + 3 + c))
theorem yR_mv {C C' N N' : tm_M} {y y' b b' n : Nat} (hn : n ≤ 6) (h : yR C N y b n) (h2 : C' y' 2 = C y 2) (h3 : C' y' 3 = C y 3) (hT : ∀ k, k < 6 → C' (y' + 1) k = C (y + 1) k) (hV : ∀ c, c < n → lEq (C' (y' + 3 + c)) (C (y + 3 + c))) (h134 : ∀ c, c < n → N' 134 c = N 134 c) (h135 : ∀ c, c < n → N' 135 c = N 135 c) (hr : ∀ j, j < 56 → N' 132 (b' + j) = N 132 (b + j)) : yR C' N' y' b' n := by
  obtain ⟨d, hd, q2, q3, q4, q5⟩ := h
  exact ⟨d, hd, h2.trans q2, h3.trans q3, tOK_c hT q4, mD_mv hn h134 h135 hr hT hV q5⟩
/-- what texts told of couple c -/
def toldR (C N : tm_M) (c : Nat) : Prop :=
  sKd (N 134 c) (C (14 + c) 0) ∧ N 135 c = C (14 + c) 1 ∧ N 136 c = C (14 + c) 2 ∧ (∃ t, t ≤ 9 ∧ C (14 + c) 1 = nI t) ∧ (∃ s, s ≤ 99 ∧ C (14 + c) 2 = nI s) ∧ C (14 + c) 3 = 0 ∧ C (14 + c) 4 = 0 ∧ C (14 + c) 5 = 0 ∧ C (14 + c) 6 = 0 ∧ C (14 + c) 8 = 0 ∧ C (14 + c) 9 = 0 ∧ C (14 + c) 10 = -1 ∧ C (14 + c) 11 = 0
def mFirsts (k : Nat) : Int32 := if k = 0 then 5 else if k = 1 then 40 else if k = 2 then 2 else if k = 3 then 12 else if k = 4 then 30 else 6
def mWords : List Int32 := [100, 101, 115, 107, 0, 0, 0, 112, 108, 97, 105, 110, 0, 0, 112, 114, 111, 117, 100, 0, 0, 115, 117, 110, 100, 97, 121, 0, 115, 117, 108, 107, 121, 0, 0, 101, 120, 99, 101, 115, 115, 0, 99, 111, 118, 101, 114, 0, 0, 112, 114, 101, 109, 105, 117, 109, 116, 105, 102, 102, 0, 0, 0, 98, 114, 101, 97, 107, 0, 0, 114, 101, 108, 105, 101, 102, 0]
def R_told (C N : tm_M) (n : Nat) : Prop := C 11 2 = nI n ∧ C 11 3 = 0 ∧ (∀ k, k < 6 → C 12 k = N 137 k) ∧ tOK (C 12) ∧ ∀ c, c < n → toldR C N c
def R_past (C N : tm_M) (n : Nat) : Prop := ∃ u q, u ≤ 8 ∧ q < 8 ∧ N 127 5 = nI u ∧ C 0 8 = nI u ∧ C 0 7 = nI q ∧ ∀ i, i < u → yR C N (50 + 9 * ((q + i) % 8)) (56 + 56 * i) n
def R_kept (C N : tm_M) (n : Nat) : Prop := ∀ k, k < 2 → (C 48 k = 0 ∨ C 48 k = 1) ∧ N 133 k = C 48 k ∧ (C 48 k = 1 → yR C N (30 + 9 * k) (504 + 56 * k) n)
def R_seen (C N : tm_M) (n : Nat) : Prop := ∃ s, s ≤ 6 ∧ C 0 12 = nI s ∧ N 127 15 = nI s ∧ ∀ i, i < s → N 139 (3 * i) = C 122 i ∧ N 139 (3 * i + 1) = C 123 i ∧ N 139 (3 * i + 2) = C 124 i ∧ ∃ e, e ≤ 30 ∧ C 123 i = nI e
def R_text (C N : tm_M) : Prop := ∃ t, t ≤ 160 ∧ C 2 4 = nI t ∧ N 127 13 = nI t ∧ ∀ i, i < t → C 3 i = N 138 i
def R_tab (N : tm_M) : Prop := (∀ i, i < 77 → N 128 i = mWords.getD i 0) ∧ ∀ k, k < 6 → N 129 k = mFirsts k ∧ N 130 k = tm_least k ∧ N 131 k = tm_most k
def Rel (C N : tm_M) (n : Nat) : Prop := n ≤ 6 ∧ N 127 7 = nI n ∧ R_told C N n ∧ yR C N 20 0 n ∧ R_past C N n ∧ R_kept C N n ∧ R_seen C N n ∧ R_text C N ∧ R_tab N
/-- scratch may differ -/
def scC (C C' : tm_M) : Prop := (∀ a, a < 125 → a ≠ 2 → a ≠ 4 → a ≠ 5 → a ≠ 6 → C' a = C a) ∧ C' 2 4 = C 2 4
def scN (N N' : tm_M) : Prop := (∀ a, 127 < a → a ≠ 132 → a ≠ 140 → a ≠ 141 → a ≠ 142 → N' a = N a) ∧ N' 127 5 = N 127 5 ∧ N' 127 7 = N 127 7 ∧ N' 127 13 = N 127 13 ∧ N' 127 15 = N 127 15 ∧ ∀ p, p < 616 → N' 132 p = N 132 p
theorem scC.rf (C : tm_M) : scC C C := ⟨fun _ _ _ _ _ _ => rfl, rfl⟩
theorem scN.rf (N : tm_M) : scN N N := ⟨fun _ _ _ _ _ _ => rfl, rfl, rfl, rfl, rfl, fun _ _ => rfl⟩
theorem scC.tr {A B C : tm_M} (h : scC A B) (h2 : scC B C) : scC A C := ⟨fun a h1 q2 q4 q5 q6 => (h2.1 a h1 q2 q4 q5 q6).trans (h.1 a h1 q2 q4 q5 q6), h2.2.trans h.2⟩
theorem scN.tr {A B C : tm_M} (h : scN A B) (h2 : scN B C) : scN A C :=
  ⟨fun a h1 q2 q4 q5 q6 => (h2.1 a h1 q2 q4 q5 q6).trans (h.1 a h1 q2 q4 q5 q6), h2.2.1.trans h.2.1, h2.2.2.1.trans h.2.2.1, h2.2.2.2.1.trans h.2.2.2.1, h2.2.2.2.2.1.trans h.2.2.2.2.1, fun p hp => (h2.2.2.2.2.2 p hp).trans (h.2.2.2.2.2 p hp)⟩
theorem yR_sc {C C' N N' : tm_M} {y b n : Nat} (hn : n ≤ 6) (hy : 11 ≤ y) (hy2 : y + 9 ≤ 125) (hb : b + 56 ≤ 616) (hC : scC C C') (hN : scN N N') (h : yR C N y b n) : yR C' N' y b n := by
  have e : ∀ a, 11 ≤ a → a < 125 → C' a = C a := fun a h1 h2 => hC.1 a h2 (by omega) (by omega) (by omega) (by omega)
  refine yR_mv hn h ?_ ?_ (fun k _ => ?_) (fun c hc => ?_) (fun c _ => ?_) (fun c _ => ?_) (fun j hj => ?_)
  · rw [e y hy (by omega)]
  · rw [e y hy (by omega)]
  · rw [e (y + 1) (by omega) (by omega)]
  · rw [e (y + 3 + c) (by omega) (by omega)]
    exact lEq.rf _
  · rw [hN.1 134 (by decide) (by decide) (by decide) (by decide) (by decide)]
  · rw [hN.1 135 (by decide) (by decide) (by decide) (by decide) (by decide)]
  · exact hN.2.2.2.2.2 _ (by omega)
theorem Rel_sc {C C' N N' : tm_M} {n : Nat} (hC : scC C C') (hN : scN N N') (h : Rel C N n) : Rel C' N' n := by
  obtain ⟨hn, h7, ⟨t1, t2, t3, t4, t5⟩, hy, ⟨u, q, hu, hq, p1, p2, p3, p4⟩, hk, ⟨s, hs, s1, s2, s3⟩, ⟨t, ht, x1, x2, x3⟩, w1, w2⟩ := h
  have e : ∀ a, 7 ≤ a → a < 125 → C' a = C a := fun a h1 h2 => hC.1 a h2 (by omega) (by omega) (by omega) (by omega)
  have e0 : C' 0 = C 0 := hC.1 0 (by decide) (by decide) (by decide) (by decide) (by decide)
  have e3 : C' 3 = C 3 := hC.1 3 (by decide) (by decide) (by decide) (by decide) (by decide)
  have f : ∀ a, 127 < a → a < 140 → a ≠ 132 → N' a = N a := fun a h1 h2 h3 => hN.1 a h1 h3 (by omega) (by omega) (by omega)
  refine ⟨hn, hN.2.2.1.trans h7, ⟨?_, ?_, fun k hk => ?_, ?_, fun c hc => ?_⟩, yR_sc hn (by decide) (by decide) (by decide) hC hN hy, ⟨u, q, hu, hq, hN.2.1.trans p1, ?_, ?_, fun i hi => ?_⟩, fun k hk2 => ?_, ⟨s, hs, ?_, hN.2.2.2.2.1.trans s2, fun i hi => ?_⟩, ⟨t, ht, hC.2.trans x1, hN.2.2.2.1.trans x2, fun i hi => ?_⟩, fun i hi => ?_, fun k hk2 => ?_⟩
  · rw [e 11 (by decide) (by decide)]; exact t1
  · rw [e 11 (by decide) (by decide)]; exact t2
  · rw [e 12 (by decide) (by decide), f 137 (by decide) (by decide) (by decide)]; exact t3 k hk
  · rw [e 12 (by decide) (by decide)]; exact t4
  · unfold toldR
    rw [e (14 + c) (by omega) (by omega), f 134 (by decide) (by decide) (by decide), f 135 (by decide) (by decide) (by decide), f 136 (by decide) (by decide) (by decide)]
    exact t5 c hc
  · rw [e0]; exact p2
  · rw [e0]; exact p3
  · have hm : (q + i) % 8 < 8 := Nat.mod_lt _ (by decide)
    exact yR_sc hn (by omega) (by omega) (by omega) hC hN (p4 i hi)
  · obtain ⟨g1, g2, g3⟩ := hk k hk2
    rw [e 48 (by decide) (by decide), f 133 (by decide) (by decide) (by decide)]
    exact ⟨g1, g2, fun z => yR_sc hn (by omega) (by omega) (by omega) hC hN (g3 z)⟩
  · rw [e0]; exact s1
  · rw [e 122 (by decide) (by decide), e 123 (by decide) (by decide), e 124 (by decide) (by decide), f 139 (by decide) (by decide) (by decide)]
    exact s3 i hi
  · rw [e3, f 138 (by decide) (by decide) (by decide)]; exact x3 i hi
  · rw [f 128 (by decide) (by decide) (by decide)]; exact w1 i hi
  · rw [f 129 (by decide) (by decide) (by decide), f 130 (by decide) (by decide) (by decide), f 131 (by decide) (by decide) (by decide)]
    exact w2 k hk2
/-- the class's cells alone, the reference's cells alone -/
def cF (C C' : tm_M) : Prop := ∀ a, 127 ≤ a → C' a = C a
def nF (N N' : tm_M) : Prop := ∀ a, a < 127 → N' a = N a
theorem Rel_c {C C' N N' : tm_M} {n : Nat} (hC : ∀ a, a < 127 → C' a = C a) (hN : ∀ a, 127 ≤ a → N' a = N a) (h : Rel C N n) : Rel C' N' n :=
  Rel_sc ⟨fun a h _ _ _ _ => hC a (by omega), by rw [hC 2 (by decide)]⟩ ⟨fun a h _ _ _ _ => hN a (by omega), by rw [hN 127 (by decide)], by rw [hN 127 (by decide)], by rw [hN 127 (by decide)], by rw [hN 127 (by decide)], fun p _ => by rw [hN 132 (by decide)]⟩ h
/-- two calls answer alike and keep the relation -/
def oOK (fx fy : tm_M → Option (Int32 × tm_M)) : Prop := ∀ (C N : tm_M) (n : Nat), Rel C N n → ∃ (r : Int32) (C1 N1 : tm_M) (n1 : Nat), fx C = some (r, C1) ∧ fy N = some (r, N1) ∧ Rel C1 N1 n1 ∧ cF C C1 ∧ nF N N1
/-- .. of calls that write nothing but scratch -/
theorem oOK_sc {fx fy : tm_M → Option (Int32 × tm_M)} (h : ∀ (C N : tm_M) (n : Nat), Rel C N n → ∃ (r : Int32) (C1 N1 : tm_M), fx C = some (r, C1) ∧ fy N = some (r, N1) ∧ scC C C1 ∧ scN N N1 ∧ cF C C1 ∧ nF N N1) : oOK fx fy := by
  intro C N n hR
  obtain ⟨r, C1, N1, h1, h2, h3, h4, h5, h6⟩ := h C N n hR
  exact ⟨r, C1, N1, n, h1, h2, Rel_sc h3 h4 hR, h5, h6⟩
