/-! THE LAW: a call of each kind (written by program: wip/whole/gen/emitlaw.py) -/
/-- what the law's walk stands on -/
def lw_K (p : Program) (s : State) (m : MethodId) (c : Code) (b L : Nat) (xs : Nat → Int32) (g : tm_G) : Prop :=
  CallFix p m c cL_law 4 s #[Value.ref b] wsL_law RL ∧ va_K g.1 vwCl (tm_tys g) s ∧ tm_S g (fun q : Nat => s.heap.size ≤ q) s s.heap ∧ (∀ M, va_D (fun q : Nat => s.heap.size ≤ q) (tm_ws g (List.range 143) M)) ∧ va_X b L xs s s.heap ∧ b < s.heap.size
theorem lw_F : ∀ o, tm_all o → o ∈ List.range 143 := fun o ho => List.mem_range.mpr ho
theorem lw_in {i L : Nat} (j : Nat) (hj : j < 5) (hi : i + 5 ≤ L) (hL : L ≤ 320) : vp_in (nI i + nI j) L := by
  have e : nI i + nI j = nI (i + j) := nI_add i j
  rw [e]
  exact vp_in_nI (by omega) (by omega)
set_option maxHeartbeats 1000000 in
set_option maxRecDepth 100000 in
theorem lw_c0 {p : Program} {l : Launch} {e : Env} {s : State} {m : MethodId} {below : List Frame} {meth : Method} {c : Code} {b L : Nat} {xs : Nat → Int32} {g : tm_G} {H : Heap} {locs : List Loc} {cells slots : Nat} {Q : State → Prop} {ls : Array Slot} {M : tm_M} {n i : Nat} (K : lw_K p s m c b L xs g) (hc : cells ≤ room_1.cells) (hs : slots ≤ room_1.slots) (hi : i + 5 ≤ L) (hL : L ≤ 320) (hl : lv_has ls 4 [(3, .int (nI i)), (2, .ref (g.2.2 + 127)), (1, .ref (g.2.2 + 0)), (0, .ref b)]) (hP : va_P g.1 vwCl (tm_ws g (List.range 143) M) H) (hS : va_S (fun q : Nat => s.heap.size ≤ q) s.heap H locs) (hR : Rel M M n)
    (kk : ∀ (H : Heap) (locs : List Loc) (M : tm_M) (n : Nat), va_P g.1 vwCl (tm_ws g (List.range 143) M) H → va_S (fun q : Nat => s.heap.size ≤ q) s.heap H locs → Rel M M n → W p l e room_1 s m #[Value.ref b] below meth c H locs cells slots Q (F0 m 783 ls [])) : W p l e room_1 s m #[Value.ref b] below meth c H locs cells slots Q (F0 m 148 ls []) := by
  obtain ⟨K0, hK, hG, hD, hX, hbl⟩ := id K
  obtain ⟨hx, hb, hml, hown, hts⟩ := id K0
  have hbA : ¬ (fun q : Nat => s.heap.size ≤ q) b := Nat.not_le.mpr hbl
  obtain ⟨r, M1, M2, n2, e1, e2, hR2⟩ := oOK_one (o_write (xs (nI i + 1).toNatClampNeg)) hR
  refine lv_aload_n hx hb dL_law_148 rfl (lv_at hl 2 rfl) ?_
  refine lv_aload_n hx hb dL_law_149 rfl (lv_at hl 3 rfl) ?_
  refine lv_iload_n hx hb dL_law_150 rfl (lv_at hl 0 rfl) ?_
  refine lv_iconst (v := 1) hx hb dL_law_151 (by decide) ?_
  refine lv_iadd hx hb dL_law_152 ?_
  refine va_sld hx hb hX hbl hbA hS (lw_in 1 (by decide) hi hL) dL_law_153 ?_
  refine tm_backI (fun _ q => q) (tm_callV (As := [.int (xs (nI i + 1).toNatClampNeg)]) (rest := []) K0 hK hG hP hS (c_X9_write l g _ _ hD lw_F _ (xs (nI i + 1).toNatClampNeg) _ e1) (cwV 1 hts gL_law_X9_write rfl rfl rfl (by decide +kernel) ⟨Nat.le_of_ble_eq_true rfl, Nat.le_of_ble_eq_true rfl⟩) (tm_recv hK hP (lw_F 0 (by decide)) (ci := 8) rfl (tm_mkX9 (by decide) _)) rfl hl.1 (lv_room (Nat.le_of_ble_eq_true rfl)) dL_law_154 ⟨hc, hs⟩) hS (fun H locs hP hS => ?_)
  refine lv_aload_n hx hb dL_law_157 rfl (lv_at hl 1 rfl) ?_
  refine lv_aload_n hx hb dL_law_158 rfl (lv_at hl 3 rfl) ?_
  refine lv_iload_n hx hb dL_law_159 rfl (lv_at hl 0 rfl) ?_
  refine lv_iconst (v := 1) hx hb dL_law_160 (by decide) ?_
  refine lv_iadd hx hb dL_law_161 ?_
  refine va_sld hx hb hX hbl hbA hS (lw_in 1 (by decide) hi hL) dL_law_162 ?_
  refine tm_backI (fun _ q => q) (tm_callV (As := [.int (xs (nI i + 1).toNatClampNeg)]) (rest := [.int _]) K0 hK hG hP hS (c_X10_write l g _ _ hD lw_F _ (xs (nI i + 1).toNatClampNeg) _ e2) (cwV 1 hts gL_law_X10_write rfl rfl rfl (by decide +kernel) ⟨Nat.le_of_ble_eq_true rfl, Nat.le_of_ble_eq_true rfl⟩) (tm_recv hK hP (lw_F 127 (by decide)) (ci := 9) rfl (tm_mkX10 (by decide) _)) rfl hl.1 (lv_room (Nat.le_of_ble_eq_true rfl)) dL_law_163 ⟨hc, hs⟩) hS (fun H locs hP hS => ?_)
  refine lv_icmp_eq (tgt := 783) hx hb dL_law_166 (by decide) (fun _ => kk H locs _ n2 hP hS hR2) (fun c1 => absurd rfl c1)
set_option maxHeartbeats 1000000 in
set_option maxRecDepth 100000 in
theorem lw_c1 {p : Program} {l : Launch} {e : Env} {s : State} {m : MethodId} {below : List Frame} {meth : Method} {c : Code} {b L : Nat} {xs : Nat → Int32} {g : tm_G} {H : Heap} {locs : List Loc} {cells slots : Nat} {Q : State → Prop} {ls : Array Slot} {M : tm_M} {n i : Nat} (K : lw_K p s m c b L xs g) (hc : cells ≤ room_1.cells) (hs : slots ≤ room_1.slots) (hi : i + 5 ≤ L) (hL : L ≤ 320) (hl : lv_has ls 4 [(3, .int (nI i)), (2, .ref (g.2.2 + 127)), (1, .ref (g.2.2 + 0)), (0, .ref b)]) (hP : va_P g.1 vwCl (tm_ws g (List.range 143) M) H) (hS : va_S (fun q : Nat => s.heap.size ≤ q) s.heap H locs) (hR : Rel M M n)
    (kk : ∀ (H : Heap) (locs : List Loc) (M : tm_M) (n : Nat), va_P g.1 vwCl (tm_ws g (List.range 143) M) H → va_S (fun q : Nat => s.heap.size ≤ q) s.heap H locs → Rel M M n → W p l e room_1 s m #[Value.ref b] below meth c H locs cells slots Q (F0 m 783 ls [])) : W p l e room_1 s m #[Value.ref b] below meth c H locs cells slots Q (F0 m 171 ls []) := by
  obtain ⟨K0, hK, hG, hD, hX, hbl⟩ := id K
  obtain ⟨hx, hb, hml, hown, hts⟩ := id K0
  have hbA : ¬ (fun q : Nat => s.heap.size ≤ q) b := Nat.not_le.mpr hbl
  obtain ⟨r, M1, M2, n2, e1, e2, hR2⟩ := oOK_one (o_erase ) hR
  refine lv_aload_n hx hb dL_law_171 rfl (lv_at hl 2 rfl) ?_
  refine tm_backI (fun _ q => q) (tm_callV (As := []) (rest := []) K0 hK hG hP hS (c_X9_erase l g _ _ hD lw_F _  _ e1) (cwV 0 hts gL_law_X9_erase rfl rfl rfl (by decide +kernel) ⟨Nat.le_of_ble_eq_true rfl, Nat.le_of_ble_eq_true rfl⟩) (tm_recv hK hP (lw_F 0 (by decide)) (ci := 8) rfl (tm_mkX9 (by decide) _)) rfl hl.1 (lv_room (Nat.le_of_ble_eq_true rfl)) dL_law_172 ⟨hc, hs⟩) hS (fun H locs hP hS => ?_)
  refine lv_aload_n hx hb dL_law_175 rfl (lv_at hl 1 rfl) ?_
  refine tm_backI (fun _ q => q) (tm_callV (As := []) (rest := [.int _]) K0 hK hG hP hS (c_X10_erase l g _ _ hD lw_F _  _ e2) (cwV 0 hts gL_law_X10_erase rfl rfl rfl (by decide +kernel) ⟨Nat.le_of_ble_eq_true rfl, Nat.le_of_ble_eq_true rfl⟩) (tm_recv hK hP (lw_F 127 (by decide)) (ci := 9) rfl (tm_mkX10 (by decide) _)) rfl hl.1 (lv_room (Nat.le_of_ble_eq_true rfl)) dL_law_176 ⟨hc, hs⟩) hS (fun H locs hP hS => ?_)
  refine lv_icmp_eq (tgt := 783) hx hb dL_law_179 (by decide) (fun _ => kk H locs _ n2 hP hS hR2) (fun c1 => absurd rfl c1)
set_option maxHeartbeats 1000000 in
set_option maxRecDepth 100000 in
theorem lw_c2 {p : Program} {l : Launch} {e : Env} {s : State} {m : MethodId} {below : List Frame} {meth : Method} {c : Code} {b L : Nat} {xs : Nat → Int32} {g : tm_G} {H : Heap} {locs : List Loc} {cells slots : Nat} {Q : State → Prop} {ls : Array Slot} {M : tm_M} {n i : Nat} (K : lw_K p s m c b L xs g) (hc : cells ≤ room_1.cells) (hs : slots ≤ room_1.slots) (hi : i + 5 ≤ L) (hL : L ≤ 320) (hl : lv_has ls 4 [(3, .int (nI i)), (2, .ref (g.2.2 + 127)), (1, .ref (g.2.2 + 0)), (0, .ref b)]) (hP : va_P g.1 vwCl (tm_ws g (List.range 143) M) H) (hS : va_S (fun q : Nat => s.heap.size ≤ q) s.heap H locs) (hR : Rel M M n)
    (kk : ∀ (H : Heap) (locs : List Loc) (M : tm_M) (n : Nat), va_P g.1 vwCl (tm_ws g (List.range 143) M) H → va_S (fun q : Nat => s.heap.size ≤ q) s.heap H locs → Rel M M n → W p l e room_1 s m #[Value.ref b] below meth c H locs cells slots Q (F0 m 783 ls [])) : W p l e room_1 s m #[Value.ref b] below meth c H locs cells slots Q (F0 m 184 ls []) := by
  obtain ⟨K0, hK, hG, hD, hX, hbl⟩ := id K
  obtain ⟨hx, hb, hml, hown, hts⟩ := id K0
  have hbA : ¬ (fun q : Nat => s.heap.size ≤ q) b := Nat.not_le.mpr hbl
  obtain ⟨r, M1, M2, n2, e1, e2, hR2⟩ := oOK_one (o_fault ) hR
  refine lv_aload_n hx hb dL_law_184 rfl (lv_at hl 2 rfl) ?_
  refine tm_backI (fun _ q => q) (tm_callV (As := []) (rest := []) K0 hK hG hP hS (c_X9_fault l g _ _ hD lw_F _  _ e1) (cwV 0 hts gL_law_X9_fault rfl rfl rfl (by decide +kernel) ⟨Nat.le_of_ble_eq_true rfl, Nat.le_of_ble_eq_true rfl⟩) (tm_recv hK hP (lw_F 0 (by decide)) (ci := 8) rfl (tm_mkX9 (by decide) _)) rfl hl.1 (lv_room (Nat.le_of_ble_eq_true rfl)) dL_law_185 ⟨hc, hs⟩) hS (fun H locs hP hS => ?_)
  refine lv_aload_n hx hb dL_law_188 rfl (lv_at hl 1 rfl) ?_
  refine tm_backI (fun _ q => q) (tm_callV (As := []) (rest := [.int _]) K0 hK hG hP hS (c_X10_fault l g _ _ hD lw_F _  _ e2) (cwV 0 hts gL_law_X10_fault rfl rfl rfl (by decide +kernel) ⟨Nat.le_of_ble_eq_true rfl, Nat.le_of_ble_eq_true rfl⟩) (tm_recv hK hP (lw_F 127 (by decide)) (ci := 9) rfl (tm_mkX10 (by decide) _)) rfl hl.1 (lv_room (Nat.le_of_ble_eq_true rfl)) dL_law_189 ⟨hc, hs⟩) hS (fun H locs hP hS => ?_)
  refine lv_icmp_eq (tgt := 783) hx hb dL_law_192 (by decide) (fun _ => kk H locs _ n2 hP hS hR2) (fun c1 => absurd rfl c1)
set_option maxHeartbeats 1000000 in
set_option maxRecDepth 100000 in
theorem lw_c3 {p : Program} {l : Launch} {e : Env} {s : State} {m : MethodId} {below : List Frame} {meth : Method} {c : Code} {b L : Nat} {xs : Nat → Int32} {g : tm_G} {H : Heap} {locs : List Loc} {cells slots : Nat} {Q : State → Prop} {ls : Array Slot} {M : tm_M} {n i : Nat} (K : lw_K p s m c b L xs g) (hc : cells ≤ room_1.cells) (hs : slots ≤ room_1.slots) (hi : i + 5 ≤ L) (hL : L ≤ 320) (hl : lv_has ls 4 [(3, .int (nI i)), (2, .ref (g.2.2 + 127)), (1, .ref (g.2.2 + 0)), (0, .ref b)]) (hP : va_P g.1 vwCl (tm_ws g (List.range 143) M) H) (hS : va_S (fun q : Nat => s.heap.size ≤ q) s.heap H locs) (hR : Rel M M n)
    (kk : ∀ (H : Heap) (locs : List Loc) (M : tm_M) (n : Nat), va_P g.1 vwCl (tm_ws g (List.range 143) M) H → va_S (fun q : Nat => s.heap.size ≤ q) s.heap H locs → Rel M M n → W p l e room_1 s m #[Value.ref b] below meth c H locs cells slots Q (F0 m 783 ls [])) : W p l e room_1 s m #[Value.ref b] below meth c H locs cells slots Q (F0 m 197 ls []) := by
  obtain ⟨K0, hK, hG, hD, hX, hbl⟩ := id K
  obtain ⟨hx, hb, hml, hown, hts⟩ := id K0
  have hbA : ¬ (fun q : Nat => s.heap.size ≤ q) b := Nat.not_le.mpr hbl
  obtain ⟨r, M1, M2, n2, e1, e2, hR2⟩ := oOK_one (o_desk ) hR
  refine lv_aload_n hx hb dL_law_197 rfl (lv_at hl 2 rfl) ?_
  refine tm_backI (fun _ q => q) (tm_callV (As := []) (rest := []) K0 hK hG hP hS (c_X9_desk l g _ _ hD lw_F _  _ e1) (cwV 0 hts gL_law_X9_desk rfl rfl rfl (by decide +kernel) ⟨Nat.le_of_ble_eq_true rfl, Nat.le_of_ble_eq_true rfl⟩) (tm_recv hK hP (lw_F 0 (by decide)) (ci := 8) rfl (tm_mkX9 (by decide) _)) rfl hl.1 (lv_room (Nat.le_of_ble_eq_true rfl)) dL_law_198 ⟨hc, hs⟩) hS (fun H locs hP hS => ?_)
  refine lv_aload_n hx hb dL_law_201 rfl (lv_at hl 1 rfl) ?_
  refine tm_backI (fun _ q => q) (tm_callV (As := []) (rest := [.int _]) K0 hK hG hP hS (c_X10_desk l g _ _ hD lw_F _  _ e2) (cwV 0 hts gL_law_X10_desk rfl rfl rfl (by decide +kernel) ⟨Nat.le_of_ble_eq_true rfl, Nat.le_of_ble_eq_true rfl⟩) (tm_recv hK hP (lw_F 127 (by decide)) (ci := 9) rfl (tm_mkX10 (by decide) _)) rfl hl.1 (lv_room (Nat.le_of_ble_eq_true rfl)) dL_law_202 ⟨hc, hs⟩) hS (fun H locs hP hS => ?_)
  refine lv_icmp_eq (tgt := 783) hx hb dL_law_205 (by decide) (fun _ => kk H locs _ n2 hP hS hR2) (fun c1 => absurd rfl c1)
set_option maxHeartbeats 1000000 in
set_option maxRecDepth 100000 in
theorem lw_c4 {p : Program} {l : Launch} {e : Env} {s : State} {m : MethodId} {below : List Frame} {meth : Method} {c : Code} {b L : Nat} {xs : Nat → Int32} {g : tm_G} {H : Heap} {locs : List Loc} {cells slots : Nat} {Q : State → Prop} {ls : Array Slot} {M : tm_M} {n i : Nat} (K : lw_K p s m c b L xs g) (hc : cells ≤ room_1.cells) (hs : slots ≤ room_1.slots) (hi : i + 5 ≤ L) (hL : L ≤ 320) (hl : lv_has ls 4 [(3, .int (nI i)), (2, .ref (g.2.2 + 127)), (1, .ref (g.2.2 + 0)), (0, .ref b)]) (hP : va_P g.1 vwCl (tm_ws g (List.range 143) M) H) (hS : va_S (fun q : Nat => s.heap.size ≤ q) s.heap H locs) (hR : Rel M M n)
    (kk : ∀ (H : Heap) (locs : List Loc) (M : tm_M) (n : Nat), va_P g.1 vwCl (tm_ws g (List.range 143) M) H → va_S (fun q : Nat => s.heap.size ≤ q) s.heap H locs → Rel M M n → W p l e room_1 s m #[Value.ref b] below meth c H locs cells slots Q (F0 m 783 ls [])) : W p l e room_1 s m #[Value.ref b] below meth c H locs cells slots Q (F0 m 210 ls []) := by
  obtain ⟨K0, hK, hG, hD, hX, hbl⟩ := id K
  obtain ⟨hx, hb, hml, hown, hts⟩ := id K0
  have hbA : ¬ (fun q : Nat => s.heap.size ≤ q) b := Nat.not_le.mpr hbl
  obtain ⟨r, M1, M2, n2, e1, e2, hR2⟩ := oOK_one (o_couple (xs (nI i + 1).toNatClampNeg) (xs (nI i + 2).toNatClampNeg)) hR
  obtain ⟨r1, ea, g1⟩ := tm_bd_some e1
  obtain ⟨rfl, rfl⟩ := Prod.mk.inj (Option.some.inj g1)
  obtain ⟨r2, eb, g2⟩ := tm_bd_some e2
  obtain ⟨rfl, rfl⟩ := Prod.mk.inj (Option.some.inj g2)
  refine lv_aload_n hx hb dL_law_210 rfl (lv_at hl 2 rfl) ?_
  refine lv_aload_n hx hb dL_law_211 rfl (lv_at hl 3 rfl) ?_
  refine lv_iload_n hx hb dL_law_212 rfl (lv_at hl 0 rfl) ?_
  refine lv_iconst (v := 1) hx hb dL_law_213 (by decide) ?_
  refine lv_iadd hx hb dL_law_214 ?_
  refine va_sld hx hb hX hbl hbA hS (lw_in 1 (by decide) hi hL) dL_law_215 ?_
  refine lv_aload_n hx hb dL_law_216 rfl (lv_at hl 3 rfl) ?_
  refine lv_iload_n hx hb dL_law_217 rfl (lv_at hl 0 rfl) ?_
  refine lv_iconst (v := 2) hx hb dL_law_218 (by decide) ?_
  refine lv_iadd hx hb dL_law_219 ?_
  refine va_sld hx hb hX hbl hbA hS (lw_in 2 (by decide) hi hL) dL_law_220 ?_
  refine tm_backI (fun _ q => q) (tm_callV (As := [.int (xs (nI i + 1).toNatClampNeg), .int (xs (nI i + 2).toNatClampNeg)]) (rest := []) K0 hK hG hP hS (c_X9_couple l g _ _ hD lw_F _ (xs (nI i + 1).toNatClampNeg) (xs (nI i + 2).toNatClampNeg) _ ea) (cwV 2 hts gL_law_X9_couple rfl rfl rfl (by decide +kernel) ⟨Nat.le_of_ble_eq_true rfl, Nat.le_of_ble_eq_true rfl⟩) (tm_recv hK hP (lw_F 0 (by decide)) (ci := 8) rfl (tm_mkX9 (by decide) _)) rfl hl.1 (lv_room (Nat.le_of_ble_eq_true rfl)) dL_law_221 ⟨hc, hs⟩) hS (fun H locs hP hS => ?_)
  refine lv_aload_n hx hb dL_law_224 rfl (lv_at hl 1 rfl) ?_
  refine lv_aload_n hx hb dL_law_225 rfl (lv_at hl 3 rfl) ?_
  refine lv_iload_n hx hb dL_law_226 rfl (lv_at hl 0 rfl) ?_
  refine lv_iconst (v := 1) hx hb dL_law_227 (by decide) ?_
  refine lv_iadd hx hb dL_law_228 ?_
  refine va_sld hx hb hX hbl hbA hS (lw_in 1 (by decide) hi hL) dL_law_229 ?_
  refine lv_aload_n hx hb dL_law_230 rfl (lv_at hl 3 rfl) ?_
  refine lv_iload_n hx hb dL_law_231 rfl (lv_at hl 0 rfl) ?_
  refine lv_iconst (v := 2) hx hb dL_law_232 (by decide) ?_
  refine lv_iadd hx hb dL_law_233 ?_
  refine va_sld hx hb hX hbl hbA hS (lw_in 2 (by decide) hi hL) dL_law_234 ?_
  refine tm_backI (fun _ q => q) (tm_callV (As := [.int (xs (nI i + 1).toNatClampNeg), .int (xs (nI i + 2).toNatClampNeg)]) (rest := [.int _]) K0 hK hG hP hS (c_X10_couple l g _ _ hD lw_F _ (xs (nI i + 1).toNatClampNeg) (xs (nI i + 2).toNatClampNeg) _ eb) (cwV 2 hts gL_law_X10_couple rfl rfl rfl (by decide +kernel) ⟨Nat.le_of_ble_eq_true rfl, Nat.le_of_ble_eq_true rfl⟩) (tm_recv hK hP (lw_F 127 (by decide)) (ci := 9) rfl (tm_mkX10 (by decide) _)) rfl hl.1 (lv_room (Nat.le_of_ble_eq_true rfl)) dL_law_235 ⟨hc, hs⟩) hS (fun H locs hP hS => ?_)
  refine lv_icmp_eq (tgt := 783) hx hb dL_law_238 (by decide) (fun _ => kk H locs _ n2 hP hS hR2) (fun c1 => absurd rfl c1)
set_option maxHeartbeats 1000000 in
set_option maxRecDepth 100000 in
theorem lw_c5 {p : Program} {l : Launch} {e : Env} {s : State} {m : MethodId} {below : List Frame} {meth : Method} {c : Code} {b L : Nat} {xs : Nat → Int32} {g : tm_G} {H : Heap} {locs : List Loc} {cells slots : Nat} {Q : State → Prop} {ls : Array Slot} {M : tm_M} {n i : Nat} (K : lw_K p s m c b L xs g) (hc : cells ≤ room_1.cells) (hs : slots ≤ room_1.slots) (hi : i + 5 ≤ L) (hL : L ≤ 320) (hl : lv_has ls 4 [(3, .int (nI i)), (2, .ref (g.2.2 + 127)), (1, .ref (g.2.2 + 0)), (0, .ref b)]) (hP : va_P g.1 vwCl (tm_ws g (List.range 143) M) H) (hS : va_S (fun q : Nat => s.heap.size ≤ q) s.heap H locs) (hR : Rel M M n)
    (kk : ∀ (H : Heap) (locs : List Loc) (M : tm_M) (n : Nat), va_P g.1 vwCl (tm_ws g (List.range 143) M) H → va_S (fun q : Nat => s.heap.size ≤ q) s.heap H locs → Rel M M n → W p l e room_1 s m #[Value.ref b] below meth c H locs cells slots Q (F0 m 783 ls [])) : W p l e room_1 s m #[Value.ref b] below meth c H locs cells slots Q (F0 m 243 ls []) := by
  obtain ⟨K0, hK, hG, hD, hX, hbl⟩ := id K
  obtain ⟨hx, hb, hml, hown, hts⟩ := id K0
  have hbA : ¬ (fun q : Nat => s.heap.size ≤ q) b := Nat.not_le.mpr hbl
  obtain ⟨r, M1, M2, n2, e1, e2, hR2⟩ := oOK_one (o_as (xs (nI i + 1).toNatClampNeg) (xs (nI i + 2).toNatClampNeg)) hR
  obtain ⟨r1, ea, g1⟩ := tm_bd_some e1
  obtain ⟨rfl, rfl⟩ := Prod.mk.inj (Option.some.inj g1)
  obtain ⟨r2, eb, g2⟩ := tm_bd_some e2
  obtain ⟨rfl, rfl⟩ := Prod.mk.inj (Option.some.inj g2)
  refine lv_aload_n hx hb dL_law_243 rfl (lv_at hl 2 rfl) ?_
  refine lv_aload_n hx hb dL_law_244 rfl (lv_at hl 3 rfl) ?_
  refine lv_iload_n hx hb dL_law_245 rfl (lv_at hl 0 rfl) ?_
  refine lv_iconst (v := 1) hx hb dL_law_246 (by decide) ?_
  refine lv_iadd hx hb dL_law_247 ?_
  refine va_sld hx hb hX hbl hbA hS (lw_in 1 (by decide) hi hL) dL_law_248 ?_
  refine lv_aload_n hx hb dL_law_249 rfl (lv_at hl 3 rfl) ?_
  refine lv_iload_n hx hb dL_law_250 rfl (lv_at hl 0 rfl) ?_
  refine lv_iconst (v := 2) hx hb dL_law_251 (by decide) ?_
  refine lv_iadd hx hb dL_law_252 ?_
  refine va_sld hx hb hX hbl hbA hS (lw_in 2 (by decide) hi hL) dL_law_253 ?_
  refine tm_backI (fun _ q => q) (tm_callV (As := [.int (xs (nI i + 1).toNatClampNeg), .int (xs (nI i + 2).toNatClampNeg)]) (rest := []) K0 hK hG hP hS (c_X9_as l g _ _ hD lw_F _ (xs (nI i + 1).toNatClampNeg) (xs (nI i + 2).toNatClampNeg) _ ea) (cwV 2 hts gL_law_X9_as rfl rfl rfl (by decide +kernel) ⟨Nat.le_of_ble_eq_true rfl, Nat.le_of_ble_eq_true rfl⟩) (tm_recv hK hP (lw_F 0 (by decide)) (ci := 8) rfl (tm_mkX9 (by decide) _)) rfl hl.1 (lv_room (Nat.le_of_ble_eq_true rfl)) dL_law_254 ⟨hc, hs⟩) hS (fun H locs hP hS => ?_)
  refine lv_aload_n hx hb dL_law_257 rfl (lv_at hl 1 rfl) ?_
  refine lv_aload_n hx hb dL_law_258 rfl (lv_at hl 3 rfl) ?_
  refine lv_iload_n hx hb dL_law_259 rfl (lv_at hl 0 rfl) ?_
  refine lv_iconst (v := 1) hx hb dL_law_260 (by decide) ?_
  refine lv_iadd hx hb dL_law_261 ?_
  refine va_sld hx hb hX hbl hbA hS (lw_in 1 (by decide) hi hL) dL_law_262 ?_
  refine lv_aload_n hx hb dL_law_263 rfl (lv_at hl 3 rfl) ?_
  refine lv_iload_n hx hb dL_law_264 rfl (lv_at hl 0 rfl) ?_
  refine lv_iconst (v := 2) hx hb dL_law_265 (by decide) ?_
  refine lv_iadd hx hb dL_law_266 ?_
  refine va_sld hx hb hX hbl hbA hS (lw_in 2 (by decide) hi hL) dL_law_267 ?_
  refine tm_backI (fun _ q => q) (tm_callV (As := [.int (xs (nI i + 1).toNatClampNeg), .int (xs (nI i + 2).toNatClampNeg)]) (rest := [.int _]) K0 hK hG hP hS (c_X10_as l g _ _ hD lw_F _ (xs (nI i + 1).toNatClampNeg) (xs (nI i + 2).toNatClampNeg) _ eb) (cwV 2 hts gL_law_X10_as rfl rfl rfl (by decide +kernel) ⟨Nat.le_of_ble_eq_true rfl, Nat.le_of_ble_eq_true rfl⟩) (tm_recv hK hP (lw_F 127 (by decide)) (ci := 9) rfl (tm_mkX10 (by decide) _)) rfl hl.1 (lv_room (Nat.le_of_ble_eq_true rfl)) dL_law_268 ⟨hc, hs⟩) hS (fun H locs hP hS => ?_)
  refine lv_icmp_eq (tgt := 783) hx hb dL_law_271 (by decide) (fun _ => kk H locs _ n2 hP hS hR2) (fun c1 => absurd rfl c1)
set_option maxHeartbeats 1000000 in
set_option maxRecDepth 100000 in
theorem lw_c6 {p : Program} {l : Launch} {e : Env} {s : State} {m : MethodId} {below : List Frame} {meth : Method} {c : Code} {b L : Nat} {xs : Nat → Int32} {g : tm_G} {H : Heap} {locs : List Loc} {cells slots : Nat} {Q : State → Prop} {ls : Array Slot} {M : tm_M} {n i : Nat} (K : lw_K p s m c b L xs g) (hc : cells ≤ room_1.cells) (hs : slots ≤ room_1.slots) (hi : i + 5 ≤ L) (hL : L ≤ 320) (hl : lv_has ls 4 [(3, .int (nI i)), (2, .ref (g.2.2 + 127)), (1, .ref (g.2.2 + 0)), (0, .ref b)]) (hP : va_P g.1 vwCl (tm_ws g (List.range 143) M) H) (hS : va_S (fun q : Nat => s.heap.size ≤ q) s.heap H locs) (hR : Rel M M n)
    (kk : ∀ (H : Heap) (locs : List Loc) (M : tm_M) (n : Nat), va_P g.1 vwCl (tm_ws g (List.range 143) M) H → va_S (fun q : Nat => s.heap.size ≤ q) s.heap H locs → Rel M M n → W p l e room_1 s m #[Value.ref b] below meth c H locs cells slots Q (F0 m 783 ls [])) : W p l e room_1 s m #[Value.ref b] below meth c H locs cells slots Q (F0 m 276 ls []) := by
  obtain ⟨K0, hK, hG, hD, hX, hbl⟩ := id K
  obtain ⟨hx, hb, hml, hown, hts⟩ := id K0
  have hbA : ¬ (fun q : Nat => s.heap.size ≤ q) b := Nat.not_le.mpr hbl
  obtain ⟨r, M1, M2, n2, e1, e2, hR2⟩ := oOK_one (o_term (xs (nI i + 1).toNatClampNeg)) hR
  obtain ⟨r1, ea, g1⟩ := tm_bd_some e1
  obtain ⟨rfl, rfl⟩ := Prod.mk.inj (Option.some.inj g1)
  obtain ⟨r2, eb, g2⟩ := tm_bd_some e2
  obtain ⟨rfl, rfl⟩ := Prod.mk.inj (Option.some.inj g2)
  refine lv_aload_n hx hb dL_law_276 rfl (lv_at hl 2 rfl) ?_
  refine lv_aload_n hx hb dL_law_277 rfl (lv_at hl 3 rfl) ?_
  refine lv_iload_n hx hb dL_law_278 rfl (lv_at hl 0 rfl) ?_
  refine lv_iconst (v := 1) hx hb dL_law_279 (by decide) ?_
  refine lv_iadd hx hb dL_law_280 ?_
  refine va_sld hx hb hX hbl hbA hS (lw_in 1 (by decide) hi hL) dL_law_281 ?_
  refine tm_backI (fun _ q => q) (tm_callV (As := [.int (xs (nI i + 1).toNatClampNeg)]) (rest := []) K0 hK hG hP hS (c_X9_term l g _ _ hD lw_F _ (xs (nI i + 1).toNatClampNeg) _ ea) (cwV 1 hts gL_law_X9_term rfl rfl rfl (by decide +kernel) ⟨Nat.le_of_ble_eq_true rfl, Nat.le_of_ble_eq_true rfl⟩) (tm_recv hK hP (lw_F 0 (by decide)) (ci := 8) rfl (tm_mkX9 (by decide) _)) rfl hl.1 (lv_room (Nat.le_of_ble_eq_true rfl)) dL_law_282 ⟨hc, hs⟩) hS (fun H locs hP hS => ?_)
  refine lv_aload_n hx hb dL_law_285 rfl (lv_at hl 1 rfl) ?_
  refine lv_aload_n hx hb dL_law_286 rfl (lv_at hl 3 rfl) ?_
  refine lv_iload_n hx hb dL_law_287 rfl (lv_at hl 0 rfl) ?_
  refine lv_iconst (v := 1) hx hb dL_law_288 (by decide) ?_
  refine lv_iadd hx hb dL_law_289 ?_
  refine va_sld hx hb hX hbl hbA hS (lw_in 1 (by decide) hi hL) dL_law_290 ?_
  refine tm_backI (fun _ q => q) (tm_callV (As := [.int (xs (nI i + 1).toNatClampNeg)]) (rest := [.int _]) K0 hK hG hP hS (c_X10_term l g _ _ hD lw_F _ (xs (nI i + 1).toNatClampNeg) _ eb) (cwV 1 hts gL_law_X10_term rfl rfl rfl (by decide +kernel) ⟨Nat.le_of_ble_eq_true rfl, Nat.le_of_ble_eq_true rfl⟩) (tm_recv hK hP (lw_F 127 (by decide)) (ci := 9) rfl (tm_mkX10 (by decide) _)) rfl hl.1 (lv_room (Nat.le_of_ble_eq_true rfl)) dL_law_291 ⟨hc, hs⟩) hS (fun H locs hP hS => ?_)
  refine lv_icmp_eq (tgt := 783) hx hb dL_law_294 (by decide) (fun _ => kk H locs _ n2 hP hS hR2) (fun c1 => absurd rfl c1)
set_option maxHeartbeats 1000000 in
set_option maxRecDepth 100000 in
theorem lw_c7 {p : Program} {l : Launch} {e : Env} {s : State} {m : MethodId} {below : List Frame} {meth : Method} {c : Code} {b L : Nat} {xs : Nat → Int32} {g : tm_G} {H : Heap} {locs : List Loc} {cells slots : Nat} {Q : State → Prop} {ls : Array Slot} {M : tm_M} {n i : Nat} (K : lw_K p s m c b L xs g) (hc : cells ≤ room_1.cells) (hs : slots ≤ room_1.slots) (hi : i + 5 ≤ L) (hL : L ≤ 320) (hl : lv_has ls 4 [(3, .int (nI i)), (2, .ref (g.2.2 + 127)), (1, .ref (g.2.2 + 0)), (0, .ref b)]) (hP : va_P g.1 vwCl (tm_ws g (List.range 143) M) H) (hS : va_S (fun q : Nat => s.heap.size ≤ q) s.heap H locs) (hR : Rel M M n)
    (kk : ∀ (H : Heap) (locs : List Loc) (M : tm_M) (n : Nat), va_P g.1 vwCl (tm_ws g (List.range 143) M) H → va_S (fun q : Nat => s.heap.size ≤ q) s.heap H locs → Rel M M n → W p l e room_1 s m #[Value.ref b] below meth c H locs cells slots Q (F0 m 783 ls [])) : W p l e room_1 s m #[Value.ref b] below meth c H locs cells slots Q (F0 m 299 ls []) := by
  obtain ⟨K0, hK, hG, hD, hX, hbl⟩ := id K
  obtain ⟨hx, hb, hml, hown, hts⟩ := id K0
  have hbA : ¬ (fun q : Nat => s.heap.size ≤ q) b := Nat.not_le.mpr hbl
  obtain ⟨r, M1, M2, n2, e1, e2, hR2⟩ := oOK_one (o_day ) hR
  refine lv_aload_n hx hb dL_law_299 rfl (lv_at hl 2 rfl) ?_
  refine tm_backI (fun _ q => q) (tm_callV (As := []) (rest := []) K0 hK hG hP hS (c_X9_day l g _ _ hD lw_F _  _ e1) (cwV 0 hts gL_law_X9_day rfl rfl rfl (by decide +kernel) ⟨Nat.le_of_ble_eq_true rfl, Nat.le_of_ble_eq_true rfl⟩) (tm_recv hK hP (lw_F 0 (by decide)) (ci := 8) rfl (tm_mkX9 (by decide) _)) rfl hl.1 (lv_room (Nat.le_of_ble_eq_true rfl)) dL_law_300 ⟨hc, hs⟩) hS (fun H locs hP hS => ?_)
  refine lv_aload_n hx hb dL_law_303 rfl (lv_at hl 1 rfl) ?_
  refine tm_backI (fun _ q => q) (tm_callV (As := []) (rest := [.int _]) K0 hK hG hP hS (c_X10_day l g _ _ hD lw_F _  _ e2) (cwV 0 hts gL_law_X10_day rfl rfl rfl (by decide +kernel) ⟨Nat.le_of_ble_eq_true rfl, Nat.le_of_ble_eq_true rfl⟩) (tm_recv hK hP (lw_F 127 (by decide)) (ci := 9) rfl (tm_mkX10 (by decide) _)) rfl hl.1 (lv_room (Nat.le_of_ble_eq_true rfl)) dL_law_304 ⟨hc, hs⟩) hS (fun H locs hP hS => ?_)
  refine lv_icmp_eq (tgt := 783) hx hb dL_law_307 (by decide) (fun _ => kk H locs _ n2 hP hS hR2) (fun c1 => absurd rfl c1)
set_option maxHeartbeats 1000000 in
set_option maxRecDepth 100000 in
theorem lw_c8 {p : Program} {l : Launch} {e : Env} {s : State} {m : MethodId} {below : List Frame} {meth : Method} {c : Code} {b L : Nat} {xs : Nat → Int32} {g : tm_G} {H : Heap} {locs : List Loc} {cells slots : Nat} {Q : State → Prop} {ls : Array Slot} {M : tm_M} {n i : Nat} (K : lw_K p s m c b L xs g) (hc : cells ≤ room_1.cells) (hs : slots ≤ room_1.slots) (hi : i + 5 ≤ L) (hL : L ≤ 320) (hl : lv_has ls 4 [(3, .int (nI i)), (2, .ref (g.2.2 + 127)), (1, .ref (g.2.2 + 0)), (0, .ref b)]) (hP : va_P g.1 vwCl (tm_ws g (List.range 143) M) H) (hS : va_S (fun q : Nat => s.heap.size ≤ q) s.heap H locs) (hR : Rel M M n)
    (kk : ∀ (H : Heap) (locs : List Loc) (M : tm_M) (n : Nat), va_P g.1 vwCl (tm_ws g (List.range 143) M) H → va_S (fun q : Nat => s.heap.size ≤ q) s.heap H locs → Rel M M n → W p l e room_1 s m #[Value.ref b] below meth c H locs cells slots Q (F0 m 783 ls [])) : W p l e room_1 s m #[Value.ref b] below meth c H locs cells slots Q (F0 m 312 ls []) := by
  obtain ⟨K0, hK, hG, hD, hX, hbl⟩ := id K
  obtain ⟨hx, hb, hml, hown, hts⟩ := id K0
  have hbA : ¬ (fun q : Nat => s.heap.size ≤ q) b := Nat.not_le.mpr hbl
  obtain ⟨r, M1, M2, n2, e1, e2, hR2⟩ := oOK_one (o_kiss (xs (nI i + 1).toNatClampNeg)) hR
  refine lv_aload_n hx hb dL_law_312 rfl (lv_at hl 2 rfl) ?_
  refine lv_aload_n hx hb dL_law_313 rfl (lv_at hl 3 rfl) ?_
  refine lv_iload_n hx hb dL_law_314 rfl (lv_at hl 0 rfl) ?_
  refine lv_iconst (v := 1) hx hb dL_law_315 (by decide) ?_
  refine lv_iadd hx hb dL_law_316 ?_
  refine va_sld hx hb hX hbl hbA hS (lw_in 1 (by decide) hi hL) dL_law_317 ?_
  refine tm_backI (fun _ q => q) (tm_callV (As := [.int (xs (nI i + 1).toNatClampNeg)]) (rest := []) K0 hK hG hP hS (c_X9_kiss l g _ _ hD lw_F _ (xs (nI i + 1).toNatClampNeg) _ e1) (cwV 1 hts gL_law_X9_kiss rfl rfl rfl (by decide +kernel) ⟨Nat.le_of_ble_eq_true rfl, Nat.le_of_ble_eq_true rfl⟩) (tm_recv hK hP (lw_F 0 (by decide)) (ci := 8) rfl (tm_mkX9 (by decide) _)) rfl hl.1 (lv_room (Nat.le_of_ble_eq_true rfl)) dL_law_318 ⟨hc, hs⟩) hS (fun H locs hP hS => ?_)
  refine lv_aload_n hx hb dL_law_321 rfl (lv_at hl 1 rfl) ?_
  refine lv_aload_n hx hb dL_law_322 rfl (lv_at hl 3 rfl) ?_
  refine lv_iload_n hx hb dL_law_323 rfl (lv_at hl 0 rfl) ?_
  refine lv_iconst (v := 1) hx hb dL_law_324 (by decide) ?_
  refine lv_iadd hx hb dL_law_325 ?_
  refine va_sld hx hb hX hbl hbA hS (lw_in 1 (by decide) hi hL) dL_law_326 ?_
  refine tm_backI (fun _ q => q) (tm_callV (As := [.int (xs (nI i + 1).toNatClampNeg)]) (rest := [.int _]) K0 hK hG hP hS (c_X10_kiss l g _ _ hD lw_F _ (xs (nI i + 1).toNatClampNeg) _ e2) (cwV 1 hts gL_law_X10_kiss rfl rfl rfl (by decide +kernel) ⟨Nat.le_of_ble_eq_true rfl, Nat.le_of_ble_eq_true rfl⟩) (tm_recv hK hP (lw_F 127 (by decide)) (ci := 9) rfl (tm_mkX10 (by decide) _)) rfl hl.1 (lv_room (Nat.le_of_ble_eq_true rfl)) dL_law_327 ⟨hc, hs⟩) hS (fun H locs hP hS => ?_)
  refine lv_icmp_eq (tgt := 783) hx hb dL_law_330 (by decide) (fun _ => kk H locs _ n2 hP hS hR2) (fun c1 => absurd rfl c1)
set_option maxHeartbeats 1000000 in
set_option maxRecDepth 100000 in
theorem lw_c9 {p : Program} {l : Launch} {e : Env} {s : State} {m : MethodId} {below : List Frame} {meth : Method} {c : Code} {b L : Nat} {xs : Nat → Int32} {g : tm_G} {H : Heap} {locs : List Loc} {cells slots : Nat} {Q : State → Prop} {ls : Array Slot} {M : tm_M} {n i : Nat} (K : lw_K p s m c b L xs g) (hc : cells ≤ room_1.cells) (hs : slots ≤ room_1.slots) (hi : i + 5 ≤ L) (hL : L ≤ 320) (hl : lv_has ls 4 [(3, .int (nI i)), (2, .ref (g.2.2 + 127)), (1, .ref (g.2.2 + 0)), (0, .ref b)]) (hP : va_P g.1 vwCl (tm_ws g (List.range 143) M) H) (hS : va_S (fun q : Nat => s.heap.size ≤ q) s.heap H locs) (hR : Rel M M n)
    (kk : ∀ (H : Heap) (locs : List Loc) (M : tm_M) (n : Nat), va_P g.1 vwCl (tm_ws g (List.range 143) M) H → va_S (fun q : Nat => s.heap.size ≤ q) s.heap H locs → Rel M M n → W p l e room_1 s m #[Value.ref b] below meth c H locs cells slots Q (F0 m 783 ls [])) : W p l e room_1 s m #[Value.ref b] below meth c H locs cells slots Q (F0 m 335 ls []) := by
  obtain ⟨K0, hK, hG, hD, hX, hbl⟩ := id K
  obtain ⟨hx, hb, hml, hown, hts⟩ := id K0
  have hbA : ¬ (fun q : Nat => s.heap.size ≤ q) b := Nat.not_le.mpr hbl
  obtain ⟨r, M1, M2, n2, e1, e2, hR2⟩ := oOK_one (o_mother (xs (nI i + 1).toNatClampNeg)) hR
  refine lv_aload_n hx hb dL_law_335 rfl (lv_at hl 2 rfl) ?_
  refine lv_aload_n hx hb dL_law_336 rfl (lv_at hl 3 rfl) ?_
  refine lv_iload_n hx hb dL_law_337 rfl (lv_at hl 0 rfl) ?_
  refine lv_iconst (v := 1) hx hb dL_law_338 (by decide) ?_
  refine lv_iadd hx hb dL_law_339 ?_
  refine va_sld hx hb hX hbl hbA hS (lw_in 1 (by decide) hi hL) dL_law_340 ?_
  refine tm_backI (fun _ q => q) (tm_callV (As := [.int (xs (nI i + 1).toNatClampNeg)]) (rest := []) K0 hK hG hP hS (c_X9_mother l g _ _ hD lw_F _ (xs (nI i + 1).toNatClampNeg) _ e1) (cwV 1 hts gL_law_X9_mother rfl rfl rfl (by decide +kernel) ⟨Nat.le_of_ble_eq_true rfl, Nat.le_of_ble_eq_true rfl⟩) (tm_recv hK hP (lw_F 0 (by decide)) (ci := 8) rfl (tm_mkX9 (by decide) _)) rfl hl.1 (lv_room (Nat.le_of_ble_eq_true rfl)) dL_law_341 ⟨hc, hs⟩) hS (fun H locs hP hS => ?_)
  refine lv_aload_n hx hb dL_law_344 rfl (lv_at hl 1 rfl) ?_
  refine lv_aload_n hx hb dL_law_345 rfl (lv_at hl 3 rfl) ?_
  refine lv_iload_n hx hb dL_law_346 rfl (lv_at hl 0 rfl) ?_
  refine lv_iconst (v := 1) hx hb dL_law_347 (by decide) ?_
  refine lv_iadd hx hb dL_law_348 ?_
  refine va_sld hx hb hX hbl hbA hS (lw_in 1 (by decide) hi hL) dL_law_349 ?_
  refine tm_backI (fun _ q => q) (tm_callV (As := [.int (xs (nI i + 1).toNatClampNeg)]) (rest := [.int _]) K0 hK hG hP hS (c_X10_mother l g _ _ hD lw_F _ (xs (nI i + 1).toNatClampNeg) _ e2) (cwV 1 hts gL_law_X10_mother rfl rfl rfl (by decide +kernel) ⟨Nat.le_of_ble_eq_true rfl, Nat.le_of_ble_eq_true rfl⟩) (tm_recv hK hP (lw_F 127 (by decide)) (ci := 9) rfl (tm_mkX10 (by decide) _)) rfl hl.1 (lv_room (Nat.le_of_ble_eq_true rfl)) dL_law_350 ⟨hc, hs⟩) hS (fun H locs hP hS => ?_)
  refine lv_icmp_eq (tgt := 783) hx hb dL_law_353 (by decide) (fun _ => kk H locs _ n2 hP hS hR2) (fun c1 => absurd rfl c1)
set_option maxHeartbeats 1000000 in
set_option maxRecDepth 100000 in
theorem lw_c10 {p : Program} {l : Launch} {e : Env} {s : State} {m : MethodId} {below : List Frame} {meth : Method} {c : Code} {b L : Nat} {xs : Nat → Int32} {g : tm_G} {H : Heap} {locs : List Loc} {cells slots : Nat} {Q : State → Prop} {ls : Array Slot} {M : tm_M} {n i : Nat} (K : lw_K p s m c b L xs g) (hc : cells ≤ room_1.cells) (hs : slots ≤ room_1.slots) (hi : i + 5 ≤ L) (hL : L ≤ 320) (hl : lv_has ls 4 [(3, .int (nI i)), (2, .ref (g.2.2 + 127)), (1, .ref (g.2.2 + 0)), (0, .ref b)]) (hP : va_P g.1 vwCl (tm_ws g (List.range 143) M) H) (hS : va_S (fun q : Nat => s.heap.size ≤ q) s.heap H locs) (hR : Rel M M n)
    (kk : ∀ (H : Heap) (locs : List Loc) (M : tm_M) (n : Nat), va_P g.1 vwCl (tm_ws g (List.range 143) M) H → va_S (fun q : Nat => s.heap.size ≤ q) s.heap H locs → Rel M M n → W p l e room_1 s m #[Value.ref b] below meth c H locs cells slots Q (F0 m 783 ls [])) : W p l e room_1 s m #[Value.ref b] below meth c H locs cells slots Q (F0 m 358 ls []) := by
  obtain ⟨K0, hK, hG, hD, hX, hbl⟩ := id K
  obtain ⟨hx, hb, hml, hown, hts⟩ := id K0
  have hbA : ¬ (fun q : Nat => s.heap.size ≤ q) b := Nat.not_le.mpr hbl
  obtain ⟨r, M1, M2, n2, e1, e2, hR2⟩ := oOK_one (o_change (xs (nI i + 1).toNatClampNeg) (xs (nI i + 2).toNatClampNeg)) hR
  refine lv_aload_n hx hb dL_law_358 rfl (lv_at hl 2 rfl) ?_
  refine lv_aload_n hx hb dL_law_359 rfl (lv_at hl 3 rfl) ?_
  refine lv_iload_n hx hb dL_law_360 rfl (lv_at hl 0 rfl) ?_
  refine lv_iconst (v := 1) hx hb dL_law_361 (by decide) ?_
  refine lv_iadd hx hb dL_law_362 ?_
  refine va_sld hx hb hX hbl hbA hS (lw_in 1 (by decide) hi hL) dL_law_363 ?_
  refine lv_aload_n hx hb dL_law_364 rfl (lv_at hl 3 rfl) ?_
  refine lv_iload_n hx hb dL_law_365 rfl (lv_at hl 0 rfl) ?_
  refine lv_iconst (v := 2) hx hb dL_law_366 (by decide) ?_
  refine lv_iadd hx hb dL_law_367 ?_
  refine va_sld hx hb hX hbl hbA hS (lw_in 2 (by decide) hi hL) dL_law_368 ?_
  refine tm_backI (fun _ q => q) (tm_callV (As := [.int (xs (nI i + 1).toNatClampNeg), .int (xs (nI i + 2).toNatClampNeg)]) (rest := []) K0 hK hG hP hS (c_X9_change l g _ _ hD lw_F _ (xs (nI i + 1).toNatClampNeg) (xs (nI i + 2).toNatClampNeg) _ e1) (cwV 2 hts gL_law_X9_change rfl rfl rfl (by decide +kernel) ⟨Nat.le_of_ble_eq_true rfl, Nat.le_of_ble_eq_true rfl⟩) (tm_recv hK hP (lw_F 0 (by decide)) (ci := 8) rfl (tm_mkX9 (by decide) _)) rfl hl.1 (lv_room (Nat.le_of_ble_eq_true rfl)) dL_law_369 ⟨hc, hs⟩) hS (fun H locs hP hS => ?_)
  refine lv_aload_n hx hb dL_law_372 rfl (lv_at hl 1 rfl) ?_
  refine lv_aload_n hx hb dL_law_373 rfl (lv_at hl 3 rfl) ?_
  refine lv_iload_n hx hb dL_law_374 rfl (lv_at hl 0 rfl) ?_
  refine lv_iconst (v := 1) hx hb dL_law_375 (by decide) ?_
  refine lv_iadd hx hb dL_law_376 ?_
  refine va_sld hx hb hX hbl hbA hS (lw_in 1 (by decide) hi hL) dL_law_377 ?_
  refine lv_aload_n hx hb dL_law_378 rfl (lv_at hl 3 rfl) ?_
  refine lv_iload_n hx hb dL_law_379 rfl (lv_at hl 0 rfl) ?_
  refine lv_iconst (v := 2) hx hb dL_law_380 (by decide) ?_
  refine lv_iadd hx hb dL_law_381 ?_
  refine va_sld hx hb hX hbl hbA hS (lw_in 2 (by decide) hi hL) dL_law_382 ?_
  refine tm_backI (fun _ q => q) (tm_callV (As := [.int (xs (nI i + 1).toNatClampNeg), .int (xs (nI i + 2).toNatClampNeg)]) (rest := [.int _]) K0 hK hG hP hS (c_X10_change l g _ _ hD lw_F _ (xs (nI i + 1).toNatClampNeg) (xs (nI i + 2).toNatClampNeg) _ e2) (cwV 2 hts gL_law_X10_change rfl rfl rfl (by decide +kernel) ⟨Nat.le_of_ble_eq_true rfl, Nat.le_of_ble_eq_true rfl⟩) (tm_recv hK hP (lw_F 127 (by decide)) (ci := 9) rfl (tm_mkX10 (by decide) _)) rfl hl.1 (lv_room (Nat.le_of_ble_eq_true rfl)) dL_law_383 ⟨hc, hs⟩) hS (fun H locs hP hS => ?_)
  refine lv_icmp_eq (tgt := 783) hx hb dL_law_386 (by decide) (fun _ => kk H locs _ n2 hP hS hR2) (fun c1 => absurd rfl c1)
set_option maxHeartbeats 1000000 in
set_option maxRecDepth 100000 in
theorem lw_c11 {p : Program} {l : Launch} {e : Env} {s : State} {m : MethodId} {below : List Frame} {meth : Method} {c : Code} {b L : Nat} {xs : Nat → Int32} {g : tm_G} {H : Heap} {locs : List Loc} {cells slots : Nat} {Q : State → Prop} {ls : Array Slot} {M : tm_M} {n i : Nat} (K : lw_K p s m c b L xs g) (hc : cells ≤ room_1.cells) (hs : slots ≤ room_1.slots) (hi : i + 5 ≤ L) (hL : L ≤ 320) (hl : lv_has ls 4 [(3, .int (nI i)), (2, .ref (g.2.2 + 127)), (1, .ref (g.2.2 + 0)), (0, .ref b)]) (hP : va_P g.1 vwCl (tm_ws g (List.range 143) M) H) (hS : va_S (fun q : Nat => s.heap.size ≤ q) s.heap H locs) (hR : Rel M M n)
    (kk : ∀ (H : Heap) (locs : List Loc) (M : tm_M) (n : Nat), va_P g.1 vwCl (tm_ws g (List.range 143) M) H → va_S (fun q : Nat => s.heap.size ≤ q) s.heap H locs → Rel M M n → W p l e room_1 s m #[Value.ref b] below meth c H locs cells slots Q (F0 m 783 ls [])) : W p l e room_1 s m #[Value.ref b] below meth c H locs cells slots Q (F0 m 391 ls []) := by
  obtain ⟨K0, hK, hG, hD, hX, hbl⟩ := id K
  obtain ⟨hx, hb, hml, hown, hts⟩ := id K0
  have hbA : ¬ (fun q : Nat => s.heap.size ≤ q) b := Nat.not_le.mpr hbl
  obtain ⟨r, M1, M2, n2, e1, e2, hR2⟩ := oOK_one (o_undo ) hR
  refine lv_aload_n hx hb dL_law_391 rfl (lv_at hl 2 rfl) ?_
  refine tm_backI (fun _ q => q) (tm_callV (As := []) (rest := []) K0 hK hG hP hS (c_X9_undo l g _ _ hD lw_F _  _ e1) (cwV 0 hts gL_law_X9_undo rfl rfl rfl (by decide +kernel) ⟨Nat.le_of_ble_eq_true rfl, Nat.le_of_ble_eq_true rfl⟩) (tm_recv hK hP (lw_F 0 (by decide)) (ci := 8) rfl (tm_mkX9 (by decide) _)) rfl hl.1 (lv_room (Nat.le_of_ble_eq_true rfl)) dL_law_392 ⟨hc, hs⟩) hS (fun H locs hP hS => ?_)
  refine lv_aload_n hx hb dL_law_395 rfl (lv_at hl 1 rfl) ?_
  refine tm_backI (fun _ q => q) (tm_callV (As := []) (rest := [.int _]) K0 hK hG hP hS (c_X10_undo l g _ _ hD lw_F _  _ e2) (cwV 0 hts gL_law_X10_undo rfl rfl rfl (by decide +kernel) ⟨Nat.le_of_ble_eq_true rfl, Nat.le_of_ble_eq_true rfl⟩) (tm_recv hK hP (lw_F 127 (by decide)) (ci := 9) rfl (tm_mkX10 (by decide) _)) rfl hl.1 (lv_room (Nat.le_of_ble_eq_true rfl)) dL_law_396 ⟨hc, hs⟩) hS (fun H locs hP hS => ?_)
  refine lv_icmp_eq (tgt := 783) hx hb dL_law_399 (by decide) (fun _ => kk H locs _ n2 hP hS hR2) (fun c1 => absurd rfl c1)
set_option maxHeartbeats 1000000 in
set_option maxRecDepth 100000 in
theorem lw_c12 {p : Program} {l : Launch} {e : Env} {s : State} {m : MethodId} {below : List Frame} {meth : Method} {c : Code} {b L : Nat} {xs : Nat → Int32} {g : tm_G} {H : Heap} {locs : List Loc} {cells slots : Nat} {Q : State → Prop} {ls : Array Slot} {M : tm_M} {n i : Nat} (K : lw_K p s m c b L xs g) (hc : cells ≤ room_1.cells) (hs : slots ≤ room_1.slots) (hi : i + 5 ≤ L) (hL : L ≤ 320) (hl : lv_has ls 4 [(3, .int (nI i)), (2, .ref (g.2.2 + 127)), (1, .ref (g.2.2 + 0)), (0, .ref b)]) (hP : va_P g.1 vwCl (tm_ws g (List.range 143) M) H) (hS : va_S (fun q : Nat => s.heap.size ≤ q) s.heap H locs) (hR : Rel M M n)
    (kk : ∀ (H : Heap) (locs : List Loc) (M : tm_M) (n : Nat), va_P g.1 vwCl (tm_ws g (List.range 143) M) H → va_S (fun q : Nat => s.heap.size ≤ q) s.heap H locs → Rel M M n → W p l e room_1 s m #[Value.ref b] below meth c H locs cells slots Q (F0 m 783 ls [])) : W p l e room_1 s m #[Value.ref b] below meth c H locs cells slots Q (F0 m 404 ls []) := by
  obtain ⟨K0, hK, hG, hD, hX, hbl⟩ := id K
  obtain ⟨hx, hb, hml, hown, hts⟩ := id K0
  have hbA : ¬ (fun q : Nat => s.heap.size ≤ q) b := Nat.not_le.mpr hbl
  obtain ⟨r, M1, M2, n2, e1, e2, hR2⟩ := oOK_one (o_keep (xs (nI i + 1).toNatClampNeg)) hR
  refine lv_aload_n hx hb dL_law_404 rfl (lv_at hl 2 rfl) ?_
  refine lv_aload_n hx hb dL_law_405 rfl (lv_at hl 3 rfl) ?_
  refine lv_iload_n hx hb dL_law_406 rfl (lv_at hl 0 rfl) ?_
  refine lv_iconst (v := 1) hx hb dL_law_407 (by decide) ?_
  refine lv_iadd hx hb dL_law_408 ?_
  refine va_sld hx hb hX hbl hbA hS (lw_in 1 (by decide) hi hL) dL_law_409 ?_
  refine tm_backI (fun _ q => q) (tm_callV (As := [.int (xs (nI i + 1).toNatClampNeg)]) (rest := []) K0 hK hG hP hS (c_X9_keep l g _ _ hD lw_F _ (xs (nI i + 1).toNatClampNeg) _ e1) (cwV 1 hts gL_law_X9_keep rfl rfl rfl (by decide +kernel) ⟨Nat.le_of_ble_eq_true rfl, Nat.le_of_ble_eq_true rfl⟩) (tm_recv hK hP (lw_F 0 (by decide)) (ci := 8) rfl (tm_mkX9 (by decide) _)) rfl hl.1 (lv_room (Nat.le_of_ble_eq_true rfl)) dL_law_410 ⟨hc, hs⟩) hS (fun H locs hP hS => ?_)
  refine lv_aload_n hx hb dL_law_413 rfl (lv_at hl 1 rfl) ?_
  refine lv_aload_n hx hb dL_law_414 rfl (lv_at hl 3 rfl) ?_
  refine lv_iload_n hx hb dL_law_415 rfl (lv_at hl 0 rfl) ?_
  refine lv_iconst (v := 1) hx hb dL_law_416 (by decide) ?_
  refine lv_iadd hx hb dL_law_417 ?_
  refine va_sld hx hb hX hbl hbA hS (lw_in 1 (by decide) hi hL) dL_law_418 ?_
  refine tm_backI (fun _ q => q) (tm_callV (As := [.int (xs (nI i + 1).toNatClampNeg)]) (rest := [.int _]) K0 hK hG hP hS (c_X10_keep l g _ _ hD lw_F _ (xs (nI i + 1).toNatClampNeg) _ e2) (cwV 1 hts gL_law_X10_keep rfl rfl rfl (by decide +kernel) ⟨Nat.le_of_ble_eq_true rfl, Nat.le_of_ble_eq_true rfl⟩) (tm_recv hK hP (lw_F 127 (by decide)) (ci := 9) rfl (tm_mkX10 (by decide) _)) rfl hl.1 (lv_room (Nat.le_of_ble_eq_true rfl)) dL_law_419 ⟨hc, hs⟩) hS (fun H locs hP hS => ?_)
  refine lv_icmp_eq (tgt := 783) hx hb dL_law_422 (by decide) (fun _ => kk H locs _ n2 hP hS hR2) (fun c1 => absurd rfl c1)
set_option maxHeartbeats 1000000 in
set_option maxRecDepth 100000 in
theorem lw_c13 {p : Program} {l : Launch} {e : Env} {s : State} {m : MethodId} {below : List Frame} {meth : Method} {c : Code} {b L : Nat} {xs : Nat → Int32} {g : tm_G} {H : Heap} {locs : List Loc} {cells slots : Nat} {Q : State → Prop} {ls : Array Slot} {M : tm_M} {n i : Nat} (K : lw_K p s m c b L xs g) (hc : cells ≤ room_1.cells) (hs : slots ≤ room_1.slots) (hi : i + 5 ≤ L) (hL : L ≤ 320) (hl : lv_has ls 4 [(3, .int (nI i)), (2, .ref (g.2.2 + 127)), (1, .ref (g.2.2 + 0)), (0, .ref b)]) (hP : va_P g.1 vwCl (tm_ws g (List.range 143) M) H) (hS : va_S (fun q : Nat => s.heap.size ≤ q) s.heap H locs) (hR : Rel M M n)
    (kk : ∀ (H : Heap) (locs : List Loc) (M : tm_M) (n : Nat), va_P g.1 vwCl (tm_ws g (List.range 143) M) H → va_S (fun q : Nat => s.heap.size ≤ q) s.heap H locs → Rel M M n → W p l e room_1 s m #[Value.ref b] below meth c H locs cells slots Q (F0 m 783 ls [])) : W p l e room_1 s m #[Value.ref b] below meth c H locs cells slots Q (F0 m 427 ls []) := by
  obtain ⟨K0, hK, hG, hD, hX, hbl⟩ := id K
  obtain ⟨hx, hb, hml, hown, hts⟩ := id K0
  have hbA : ¬ (fun q : Nat => s.heap.size ≤ q) b := Nat.not_le.mpr hbl
  obtain ⟨r, M1, M2, n2, e1, e2, hR2⟩ := oOK_one (o_back (xs (nI i + 1).toNatClampNeg)) hR
  refine lv_aload_n hx hb dL_law_427 rfl (lv_at hl 2 rfl) ?_
  refine lv_aload_n hx hb dL_law_428 rfl (lv_at hl 3 rfl) ?_
  refine lv_iload_n hx hb dL_law_429 rfl (lv_at hl 0 rfl) ?_
  refine lv_iconst (v := 1) hx hb dL_law_430 (by decide) ?_
  refine lv_iadd hx hb dL_law_431 ?_
  refine va_sld hx hb hX hbl hbA hS (lw_in 1 (by decide) hi hL) dL_law_432 ?_
  refine tm_backI (fun _ q => q) (tm_callV (As := [.int (xs (nI i + 1).toNatClampNeg)]) (rest := []) K0 hK hG hP hS (c_X9_back l g _ _ hD lw_F _ (xs (nI i + 1).toNatClampNeg) _ e1) (cwV 1 hts gL_law_X9_back rfl rfl rfl (by decide +kernel) ⟨Nat.le_of_ble_eq_true rfl, Nat.le_of_ble_eq_true rfl⟩) (tm_recv hK hP (lw_F 0 (by decide)) (ci := 8) rfl (tm_mkX9 (by decide) _)) rfl hl.1 (lv_room (Nat.le_of_ble_eq_true rfl)) dL_law_433 ⟨hc, hs⟩) hS (fun H locs hP hS => ?_)
  refine lv_aload_n hx hb dL_law_436 rfl (lv_at hl 1 rfl) ?_
  refine lv_aload_n hx hb dL_law_437 rfl (lv_at hl 3 rfl) ?_
  refine lv_iload_n hx hb dL_law_438 rfl (lv_at hl 0 rfl) ?_
  refine lv_iconst (v := 1) hx hb dL_law_439 (by decide) ?_
  refine lv_iadd hx hb dL_law_440 ?_
  refine va_sld hx hb hX hbl hbA hS (lw_in 1 (by decide) hi hL) dL_law_441 ?_
  refine tm_backI (fun _ q => q) (tm_callV (As := [.int (xs (nI i + 1).toNatClampNeg)]) (rest := [.int _]) K0 hK hG hP hS (c_X10_back l g _ _ hD lw_F _ (xs (nI i + 1).toNatClampNeg) _ e2) (cwV 1 hts gL_law_X10_back rfl rfl rfl (by decide +kernel) ⟨Nat.le_of_ble_eq_true rfl, Nat.le_of_ble_eq_true rfl⟩) (tm_recv hK hP (lw_F 127 (by decide)) (ci := 9) rfl (tm_mkX10 (by decide) _)) rfl hl.1 (lv_room (Nat.le_of_ble_eq_true rfl)) dL_law_442 ⟨hc, hs⟩) hS (fun H locs hP hS => ?_)
  refine lv_icmp_eq (tgt := 783) hx hb dL_law_445 (by decide) (fun _ => kk H locs _ n2 hP hS hR2) (fun c1 => absurd rfl c1)
set_option maxHeartbeats 1000000 in
set_option maxRecDepth 100000 in
theorem lw_c14 {p : Program} {l : Launch} {e : Env} {s : State} {m : MethodId} {below : List Frame} {meth : Method} {c : Code} {b L : Nat} {xs : Nat → Int32} {g : tm_G} {H : Heap} {locs : List Loc} {cells slots : Nat} {Q : State → Prop} {ls : Array Slot} {M : tm_M} {n i : Nat} (K : lw_K p s m c b L xs g) (hc : cells ≤ room_1.cells) (hs : slots ≤ room_1.slots) (hi : i + 5 ≤ L) (hL : L ≤ 320) (hl : lv_has ls 4 [(3, .int (nI i)), (2, .ref (g.2.2 + 127)), (1, .ref (g.2.2 + 0)), (0, .ref b)]) (hP : va_P g.1 vwCl (tm_ws g (List.range 143) M) H) (hS : va_S (fun q : Nat => s.heap.size ≤ q) s.heap H locs) (hR : Rel M M n)
    (kk : ∀ (H : Heap) (locs : List Loc) (M : tm_M) (n : Nat), va_P g.1 vwCl (tm_ws g (List.range 143) M) H → va_S (fun q : Nat => s.heap.size ≤ q) s.heap H locs → Rel M M n → W p l e room_1 s m #[Value.ref b] below meth c H locs cells slots Q (F0 m 783 ls [])) : W p l e room_1 s m #[Value.ref b] below meth c H locs cells slots Q (F0 m 450 ls []) := by
  obtain ⟨K0, hK, hG, hD, hX, hbl⟩ := id K
  obtain ⟨hx, hb, hml, hown, hts⟩ := id K0
  have hbA : ¬ (fun q : Nat => s.heap.size ≤ q) b := Nat.not_le.mpr hbl
  obtain ⟨r, M1, M2, n2, e1, e2, hR2⟩ := oOK_one (o_balance (xs (nI i + 1).toNatClampNeg)) hR
  refine lv_aload_n hx hb dL_law_450 rfl (lv_at hl 2 rfl) ?_
  refine lv_aload_n hx hb dL_law_451 rfl (lv_at hl 3 rfl) ?_
  refine lv_iload_n hx hb dL_law_452 rfl (lv_at hl 0 rfl) ?_
  refine lv_iconst (v := 1) hx hb dL_law_453 (by decide) ?_
  refine lv_iadd hx hb dL_law_454 ?_
  refine va_sld hx hb hX hbl hbA hS (lw_in 1 (by decide) hi hL) dL_law_455 ?_
  refine tm_backI (fun _ q => q) (tm_callV (As := [.int (xs (nI i + 1).toNatClampNeg)]) (rest := []) K0 hK hG hP hS (c_X9_balance l g _ _ hD lw_F _ (xs (nI i + 1).toNatClampNeg) _ e1) (cwV 1 hts gL_law_X9_balance rfl rfl rfl (by decide +kernel) ⟨Nat.le_of_ble_eq_true rfl, Nat.le_of_ble_eq_true rfl⟩) (tm_recv hK hP (lw_F 0 (by decide)) (ci := 8) rfl (tm_mkX9 (by decide) _)) rfl hl.1 (lv_room (Nat.le_of_ble_eq_true rfl)) dL_law_456 ⟨hc, hs⟩) hS (fun H locs hP hS => ?_)
  refine lv_aload_n hx hb dL_law_459 rfl (lv_at hl 1 rfl) ?_
  refine lv_aload_n hx hb dL_law_460 rfl (lv_at hl 3 rfl) ?_
  refine lv_iload_n hx hb dL_law_461 rfl (lv_at hl 0 rfl) ?_
  refine lv_iconst (v := 1) hx hb dL_law_462 (by decide) ?_
  refine lv_iadd hx hb dL_law_463 ?_
  refine va_sld hx hb hX hbl hbA hS (lw_in 1 (by decide) hi hL) dL_law_464 ?_
  refine tm_backI (fun _ q => q) (tm_callV (As := [.int (xs (nI i + 1).toNatClampNeg)]) (rest := [.int _]) K0 hK hG hP hS (c_X10_balance l g _ _ hD lw_F _ (xs (nI i + 1).toNatClampNeg) _ e2) (cwV 1 hts gL_law_X10_balance rfl rfl rfl (by decide +kernel) ⟨Nat.le_of_ble_eq_true rfl, Nat.le_of_ble_eq_true rfl⟩) (tm_recv hK hP (lw_F 127 (by decide)) (ci := 9) rfl (tm_mkX10 (by decide) _)) rfl hl.1 (lv_room (Nat.le_of_ble_eq_true rfl)) dL_law_465 ⟨hc, hs⟩) hS (fun H locs hP hS => ?_)
  refine lv_icmp_eq (tgt := 783) hx hb dL_law_468 (by decide) (fun _ => kk H locs _ n2 hP hS hR2) (fun c1 => absurd rfl c1)
set_option maxHeartbeats 1000000 in
set_option maxRecDepth 100000 in
theorem lw_c15 {p : Program} {l : Launch} {e : Env} {s : State} {m : MethodId} {below : List Frame} {meth : Method} {c : Code} {b L : Nat} {xs : Nat → Int32} {g : tm_G} {H : Heap} {locs : List Loc} {cells slots : Nat} {Q : State → Prop} {ls : Array Slot} {M : tm_M} {n i : Nat} (K : lw_K p s m c b L xs g) (hc : cells ≤ room_1.cells) (hs : slots ≤ room_1.slots) (hi : i + 5 ≤ L) (hL : L ≤ 320) (hl : lv_has ls 4 [(3, .int (nI i)), (2, .ref (g.2.2 + 127)), (1, .ref (g.2.2 + 0)), (0, .ref b)]) (hP : va_P g.1 vwCl (tm_ws g (List.range 143) M) H) (hS : va_S (fun q : Nat => s.heap.size ≤ q) s.heap H locs) (hR : Rel M M n)
    (kk : ∀ (H : Heap) (locs : List Loc) (M : tm_M) (n : Nat), va_P g.1 vwCl (tm_ws g (List.range 143) M) H → va_S (fun q : Nat => s.heap.size ≤ q) s.heap H locs → Rel M M n → W p l e room_1 s m #[Value.ref b] below meth c H locs cells slots Q (F0 m 783 ls [])) : W p l e room_1 s m #[Value.ref b] below meth c H locs cells slots Q (F0 m 473 ls []) := by
  obtain ⟨K0, hK, hG, hD, hX, hbl⟩ := id K
  obtain ⟨hx, hb, hml, hown, hts⟩ := id K0
  have hbA : ¬ (fun q : Nat => s.heap.size ≤ q) b := Nat.not_le.mpr hbl
  obtain ⟨r, M1, M2, n2, e1, e2, hR2⟩ := oOK_one (o_strain (xs (nI i + 1).toNatClampNeg) (xs (nI i + 2).toNatClampNeg)) hR
  refine lv_aload_n hx hb dL_law_473 rfl (lv_at hl 2 rfl) ?_
  refine lv_aload_n hx hb dL_law_474 rfl (lv_at hl 3 rfl) ?_
  refine lv_iload_n hx hb dL_law_475 rfl (lv_at hl 0 rfl) ?_
  refine lv_iconst (v := 1) hx hb dL_law_476 (by decide) ?_
  refine lv_iadd hx hb dL_law_477 ?_
  refine va_sld hx hb hX hbl hbA hS (lw_in 1 (by decide) hi hL) dL_law_478 ?_
  refine lv_aload_n hx hb dL_law_479 rfl (lv_at hl 3 rfl) ?_
  refine lv_iload_n hx hb dL_law_480 rfl (lv_at hl 0 rfl) ?_
  refine lv_iconst (v := 2) hx hb dL_law_481 (by decide) ?_
  refine lv_iadd hx hb dL_law_482 ?_
  refine va_sld hx hb hX hbl hbA hS (lw_in 2 (by decide) hi hL) dL_law_483 ?_
  refine tm_backI (fun _ q => q) (tm_callV (As := [.int (xs (nI i + 1).toNatClampNeg), .int (xs (nI i + 2).toNatClampNeg)]) (rest := []) K0 hK hG hP hS (c_X9_strain l g _ _ hD lw_F _ (xs (nI i + 1).toNatClampNeg) (xs (nI i + 2).toNatClampNeg) _ e1) (cwV 2 hts gL_law_X9_strain rfl rfl rfl (by decide +kernel) ⟨Nat.le_of_ble_eq_true rfl, Nat.le_of_ble_eq_true rfl⟩) (tm_recv hK hP (lw_F 0 (by decide)) (ci := 8) rfl (tm_mkX9 (by decide) _)) rfl hl.1 (lv_room (Nat.le_of_ble_eq_true rfl)) dL_law_484 ⟨hc, hs⟩) hS (fun H locs hP hS => ?_)
  refine lv_aload_n hx hb dL_law_487 rfl (lv_at hl 1 rfl) ?_
  refine lv_aload_n hx hb dL_law_488 rfl (lv_at hl 3 rfl) ?_
  refine lv_iload_n hx hb dL_law_489 rfl (lv_at hl 0 rfl) ?_
  refine lv_iconst (v := 1) hx hb dL_law_490 (by decide) ?_
  refine lv_iadd hx hb dL_law_491 ?_
  refine va_sld hx hb hX hbl hbA hS (lw_in 1 (by decide) hi hL) dL_law_492 ?_
  refine lv_aload_n hx hb dL_law_493 rfl (lv_at hl 3 rfl) ?_
  refine lv_iload_n hx hb dL_law_494 rfl (lv_at hl 0 rfl) ?_
  refine lv_iconst (v := 2) hx hb dL_law_495 (by decide) ?_
  refine lv_iadd hx hb dL_law_496 ?_
  refine va_sld hx hb hX hbl hbA hS (lw_in 2 (by decide) hi hL) dL_law_497 ?_
  refine tm_backI (fun _ q => q) (tm_callV (As := [.int (xs (nI i + 1).toNatClampNeg), .int (xs (nI i + 2).toNatClampNeg)]) (rest := [.int _]) K0 hK hG hP hS (c_X10_strain l g _ _ hD lw_F _ (xs (nI i + 1).toNatClampNeg) (xs (nI i + 2).toNatClampNeg) _ e2) (cwV 2 hts gL_law_X10_strain rfl rfl rfl (by decide +kernel) ⟨Nat.le_of_ble_eq_true rfl, Nat.le_of_ble_eq_true rfl⟩) (tm_recv hK hP (lw_F 127 (by decide)) (ci := 9) rfl (tm_mkX10 (by decide) _)) rfl hl.1 (lv_room (Nat.le_of_ble_eq_true rfl)) dL_law_498 ⟨hc, hs⟩) hS (fun H locs hP hS => ?_)
  refine lv_icmp_eq (tgt := 783) hx hb dL_law_501 (by decide) (fun _ => kk H locs _ n2 hP hS hR2) (fun c1 => absurd rfl c1)
set_option maxHeartbeats 1000000 in
set_option maxRecDepth 100000 in
theorem lw_c16 {p : Program} {l : Launch} {e : Env} {s : State} {m : MethodId} {below : List Frame} {meth : Method} {c : Code} {b L : Nat} {xs : Nat → Int32} {g : tm_G} {H : Heap} {locs : List Loc} {cells slots : Nat} {Q : State → Prop} {ls : Array Slot} {M : tm_M} {n i : Nat} (K : lw_K p s m c b L xs g) (hc : cells ≤ room_1.cells) (hs : slots ≤ room_1.slots) (hi : i + 5 ≤ L) (hL : L ≤ 320) (hl : lv_has ls 4 [(3, .int (nI i)), (2, .ref (g.2.2 + 127)), (1, .ref (g.2.2 + 0)), (0, .ref b)]) (hP : va_P g.1 vwCl (tm_ws g (List.range 143) M) H) (hS : va_S (fun q : Nat => s.heap.size ≤ q) s.heap H locs) (hR : Rel M M n)
    (kk : ∀ (H : Heap) (locs : List Loc) (M : tm_M) (n : Nat), va_P g.1 vwCl (tm_ws g (List.range 143) M) H → va_S (fun q : Nat => s.heap.size ≤ q) s.heap H locs → Rel M M n → W p l e room_1 s m #[Value.ref b] below meth c H locs cells slots Q (F0 m 783 ls [])) : W p l e room_1 s m #[Value.ref b] below meth c H locs cells slots Q (F0 m 506 ls []) := by
  obtain ⟨K0, hK, hG, hD, hX, hbl⟩ := id K
  obtain ⟨hx, hb, hml, hown, hts⟩ := id K0
  have hbA : ¬ (fun q : Nat => s.heap.size ≤ q) b := Nat.not_le.mpr hbl
  obtain ⟨r, M1, M2, n2, e1, e2, hR2⟩ := oOK_one (o_first (xs (nI i + 1).toNatClampNeg)) hR
  refine lv_aload_n hx hb dL_law_506 rfl (lv_at hl 2 rfl) ?_
  refine lv_aload_n hx hb dL_law_507 rfl (lv_at hl 3 rfl) ?_
  refine lv_iload_n hx hb dL_law_508 rfl (lv_at hl 0 rfl) ?_
  refine lv_iconst (v := 1) hx hb dL_law_509 (by decide) ?_
  refine lv_iadd hx hb dL_law_510 ?_
  refine va_sld hx hb hX hbl hbA hS (lw_in 1 (by decide) hi hL) dL_law_511 ?_
  refine tm_backI (fun _ q => q) (tm_callV (As := [.int (xs (nI i + 1).toNatClampNeg)]) (rest := []) K0 hK hG hP hS (c_X9_first l g _ _ hD lw_F _ (xs (nI i + 1).toNatClampNeg) _ e1) (cwV 1 hts gL_law_X9_first rfl rfl rfl (by decide +kernel) ⟨Nat.le_of_ble_eq_true rfl, Nat.le_of_ble_eq_true rfl⟩) (tm_recv hK hP (lw_F 0 (by decide)) (ci := 8) rfl (tm_mkX9 (by decide) _)) rfl hl.1 (lv_room (Nat.le_of_ble_eq_true rfl)) dL_law_512 ⟨hc, hs⟩) hS (fun H locs hP hS => ?_)
  refine lv_aload_n hx hb dL_law_515 rfl (lv_at hl 1 rfl) ?_
  refine lv_aload_n hx hb dL_law_516 rfl (lv_at hl 3 rfl) ?_
  refine lv_iload_n hx hb dL_law_517 rfl (lv_at hl 0 rfl) ?_
  refine lv_iconst (v := 1) hx hb dL_law_518 (by decide) ?_
  refine lv_iadd hx hb dL_law_519 ?_
  refine va_sld hx hb hX hbl hbA hS (lw_in 1 (by decide) hi hL) dL_law_520 ?_
  refine tm_backI (fun _ q => q) (tm_callV (As := [.int (xs (nI i + 1).toNatClampNeg)]) (rest := [.int _]) K0 hK hG hP hS (c_X10_first l g _ _ hD lw_F _ (xs (nI i + 1).toNatClampNeg) _ e2) (cwV 1 hts gL_law_X10_first rfl rfl rfl (by decide +kernel) ⟨Nat.le_of_ble_eq_true rfl, Nat.le_of_ble_eq_true rfl⟩) (tm_recv hK hP (lw_F 127 (by decide)) (ci := 9) rfl (tm_mkX10 (by decide) _)) rfl hl.1 (lv_room (Nat.le_of_ble_eq_true rfl)) dL_law_521 ⟨hc, hs⟩) hS (fun H locs hP hS => ?_)
  refine lv_icmp_eq (tgt := 783) hx hb dL_law_524 (by decide) (fun _ => kk H locs _ n2 hP hS hR2) (fun c1 => absurd rfl c1)
set_option maxHeartbeats 1000000 in
set_option maxRecDepth 100000 in
theorem lw_c17 {p : Program} {l : Launch} {e : Env} {s : State} {m : MethodId} {below : List Frame} {meth : Method} {c : Code} {b L : Nat} {xs : Nat → Int32} {g : tm_G} {H : Heap} {locs : List Loc} {cells slots : Nat} {Q : State → Prop} {ls : Array Slot} {M : tm_M} {n i : Nat} (K : lw_K p s m c b L xs g) (hc : cells ≤ room_1.cells) (hs : slots ≤ room_1.slots) (hi : i + 5 ≤ L) (hL : L ≤ 320) (hl : lv_has ls 4 [(3, .int (nI i)), (2, .ref (g.2.2 + 127)), (1, .ref (g.2.2 + 0)), (0, .ref b)]) (hP : va_P g.1 vwCl (tm_ws g (List.range 143) M) H) (hS : va_S (fun q : Nat => s.heap.size ≤ q) s.heap H locs) (hR : Rel M M n)
    (kk : ∀ (H : Heap) (locs : List Loc) (M : tm_M) (n : Nat), va_P g.1 vwCl (tm_ws g (List.range 143) M) H → va_S (fun q : Nat => s.heap.size ≤ q) s.heap H locs → Rel M M n → W p l e room_1 s m #[Value.ref b] below meth c H locs cells slots Q (F0 m 783 ls [])) : W p l e room_1 s m #[Value.ref b] below meth c H locs cells slots Q (F0 m 529 ls []) := by
  obtain ⟨K0, hK, hG, hD, hX, hbl⟩ := id K
  obtain ⟨hx, hb, hml, hown, hts⟩ := id K0
  have hbA : ¬ (fun q : Nat => s.heap.size ≤ q) b := Nat.not_le.mpr hbl
  obtain ⟨r, M1, M2, n2, e1, e2, hR2⟩ := oOK_one (o_level (xs (nI i + 1).toNatClampNeg)) hR
  refine lv_aload_n hx hb dL_law_529 rfl (lv_at hl 2 rfl) ?_
  refine lv_aload_n hx hb dL_law_530 rfl (lv_at hl 3 rfl) ?_
  refine lv_iload_n hx hb dL_law_531 rfl (lv_at hl 0 rfl) ?_
  refine lv_iconst (v := 1) hx hb dL_law_532 (by decide) ?_
  refine lv_iadd hx hb dL_law_533 ?_
  refine va_sld hx hb hX hbl hbA hS (lw_in 1 (by decide) hi hL) dL_law_534 ?_
  refine tm_backI (fun _ q => q) (tm_callV (As := [.int (xs (nI i + 1).toNatClampNeg)]) (rest := []) K0 hK hG hP hS (c_X9_level l g _ _ hD lw_F _ (xs (nI i + 1).toNatClampNeg) _ e1) (cwV 1 hts gL_law_X9_level rfl rfl rfl (by decide +kernel) ⟨Nat.le_of_ble_eq_true rfl, Nat.le_of_ble_eq_true rfl⟩) (tm_recv hK hP (lw_F 0 (by decide)) (ci := 8) rfl (tm_mkX9 (by decide) _)) rfl hl.1 (lv_room (Nat.le_of_ble_eq_true rfl)) dL_law_535 ⟨hc, hs⟩) hS (fun H locs hP hS => ?_)
  refine lv_aload_n hx hb dL_law_538 rfl (lv_at hl 1 rfl) ?_
  refine lv_aload_n hx hb dL_law_539 rfl (lv_at hl 3 rfl) ?_
  refine lv_iload_n hx hb dL_law_540 rfl (lv_at hl 0 rfl) ?_
  refine lv_iconst (v := 1) hx hb dL_law_541 (by decide) ?_
  refine lv_iadd hx hb dL_law_542 ?_
  refine va_sld hx hb hX hbl hbA hS (lw_in 1 (by decide) hi hL) dL_law_543 ?_
  refine tm_backI (fun _ q => q) (tm_callV (As := [.int (xs (nI i + 1).toNatClampNeg)]) (rest := [.int _]) K0 hK hG hP hS (c_X10_level l g _ _ hD lw_F _ (xs (nI i + 1).toNatClampNeg) _ e2) (cwV 1 hts gL_law_X10_level rfl rfl rfl (by decide +kernel) ⟨Nat.le_of_ble_eq_true rfl, Nat.le_of_ble_eq_true rfl⟩) (tm_recv hK hP (lw_F 127 (by decide)) (ci := 9) rfl (tm_mkX10 (by decide) _)) rfl hl.1 (lv_room (Nat.le_of_ble_eq_true rfl)) dL_law_544 ⟨hc, hs⟩) hS (fun H locs hP hS => ?_)
  refine lv_icmp_eq (tgt := 783) hx hb dL_law_547 (by decide) (fun _ => kk H locs _ n2 hP hS hR2) (fun c1 => absurd rfl c1)
set_option maxHeartbeats 1000000 in
set_option maxRecDepth 100000 in
theorem lw_c18 {p : Program} {l : Launch} {e : Env} {s : State} {m : MethodId} {below : List Frame} {meth : Method} {c : Code} {b L : Nat} {xs : Nat → Int32} {g : tm_G} {H : Heap} {locs : List Loc} {cells slots : Nat} {Q : State → Prop} {ls : Array Slot} {M : tm_M} {n i : Nat} (K : lw_K p s m c b L xs g) (hc : cells ≤ room_1.cells) (hs : slots ≤ room_1.slots) (hi : i + 5 ≤ L) (hL : L ≤ 320) (hl : lv_has ls 4 [(3, .int (nI i)), (2, .ref (g.2.2 + 127)), (1, .ref (g.2.2 + 0)), (0, .ref b)]) (hP : va_P g.1 vwCl (tm_ws g (List.range 143) M) H) (hS : va_S (fun q : Nat => s.heap.size ≤ q) s.heap H locs) (hR : Rel M M n)
    (kk : ∀ (H : Heap) (locs : List Loc) (M : tm_M) (n : Nat), va_P g.1 vwCl (tm_ws g (List.range 143) M) H → va_S (fun q : Nat => s.heap.size ≤ q) s.heap H locs → Rel M M n → W p l e room_1 s m #[Value.ref b] below meth c H locs cells slots Q (F0 m 783 ls [])) : W p l e room_1 s m #[Value.ref b] below meth c H locs cells slots Q (F0 m 552 ls []) := by
  obtain ⟨K0, hK, hG, hD, hX, hbl⟩ := id K
  obtain ⟨hx, hb, hml, hown, hts⟩ := id K0
  have hbA : ¬ (fun q : Nat => s.heap.size ≤ q) b := Nat.not_le.mpr hbl
  obtain ⟨r, M1, M2, n2, e1, e2, hR2⟩ := oOK_one (o_kissOn (xs (nI i + 1).toNatClampNeg) (xs (nI i + 2).toNatClampNeg)) hR
  refine lv_aload_n hx hb dL_law_552 rfl (lv_at hl 2 rfl) ?_
  refine lv_aload_n hx hb dL_law_553 rfl (lv_at hl 3 rfl) ?_
  refine lv_iload_n hx hb dL_law_554 rfl (lv_at hl 0 rfl) ?_
  refine lv_iconst (v := 1) hx hb dL_law_555 (by decide) ?_
  refine lv_iadd hx hb dL_law_556 ?_
  refine va_sld hx hb hX hbl hbA hS (lw_in 1 (by decide) hi hL) dL_law_557 ?_
  refine lv_aload_n hx hb dL_law_558 rfl (lv_at hl 3 rfl) ?_
  refine lv_iload_n hx hb dL_law_559 rfl (lv_at hl 0 rfl) ?_
  refine lv_iconst (v := 2) hx hb dL_law_560 (by decide) ?_
  refine lv_iadd hx hb dL_law_561 ?_
  refine va_sld hx hb hX hbl hbA hS (lw_in 2 (by decide) hi hL) dL_law_562 ?_
  refine tm_backI (fun _ q => q) (tm_callV (As := [.int (xs (nI i + 1).toNatClampNeg), .int (xs (nI i + 2).toNatClampNeg)]) (rest := []) K0 hK hG hP hS (c_X9_kissOn l g _ _ hD lw_F _ (xs (nI i + 1).toNatClampNeg) (xs (nI i + 2).toNatClampNeg) _ e1) (cwV 2 hts gL_law_X9_kissOn rfl rfl rfl (by decide +kernel) ⟨Nat.le_of_ble_eq_true rfl, Nat.le_of_ble_eq_true rfl⟩) (tm_recv hK hP (lw_F 0 (by decide)) (ci := 8) rfl (tm_mkX9 (by decide) _)) rfl hl.1 (lv_room (Nat.le_of_ble_eq_true rfl)) dL_law_563 ⟨hc, hs⟩) hS (fun H locs hP hS => ?_)
  refine lv_aload_n hx hb dL_law_566 rfl (lv_at hl 1 rfl) ?_
  refine lv_aload_n hx hb dL_law_567 rfl (lv_at hl 3 rfl) ?_
  refine lv_iload_n hx hb dL_law_568 rfl (lv_at hl 0 rfl) ?_
  refine lv_iconst (v := 1) hx hb dL_law_569 (by decide) ?_
  refine lv_iadd hx hb dL_law_570 ?_
  refine va_sld hx hb hX hbl hbA hS (lw_in 1 (by decide) hi hL) dL_law_571 ?_
  refine lv_aload_n hx hb dL_law_572 rfl (lv_at hl 3 rfl) ?_
  refine lv_iload_n hx hb dL_law_573 rfl (lv_at hl 0 rfl) ?_
  refine lv_iconst (v := 2) hx hb dL_law_574 (by decide) ?_
  refine lv_iadd hx hb dL_law_575 ?_
  refine va_sld hx hb hX hbl hbA hS (lw_in 2 (by decide) hi hL) dL_law_576 ?_
  refine tm_backI (fun _ q => q) (tm_callV (As := [.int (xs (nI i + 1).toNatClampNeg), .int (xs (nI i + 2).toNatClampNeg)]) (rest := [.int _]) K0 hK hG hP hS (c_X10_kissOn l g _ _ hD lw_F _ (xs (nI i + 1).toNatClampNeg) (xs (nI i + 2).toNatClampNeg) _ e2) (cwV 2 hts gL_law_X10_kissOn rfl rfl rfl (by decide +kernel) ⟨Nat.le_of_ble_eq_true rfl, Nat.le_of_ble_eq_true rfl⟩) (tm_recv hK hP (lw_F 127 (by decide)) (ci := 9) rfl (tm_mkX10 (by decide) _)) rfl hl.1 (lv_room (Nat.le_of_ble_eq_true rfl)) dL_law_577 ⟨hc, hs⟩) hS (fun H locs hP hS => ?_)
  refine lv_icmp_eq (tgt := 783) hx hb dL_law_580 (by decide) (fun _ => kk H locs _ n2 hP hS hR2) (fun c1 => absurd rfl c1)
set_option maxHeartbeats 1000000 in
set_option maxRecDepth 100000 in
theorem lw_c19 {p : Program} {l : Launch} {e : Env} {s : State} {m : MethodId} {below : List Frame} {meth : Method} {c : Code} {b L : Nat} {xs : Nat → Int32} {g : tm_G} {H : Heap} {locs : List Loc} {cells slots : Nat} {Q : State → Prop} {ls : Array Slot} {M : tm_M} {n i : Nat} (K : lw_K p s m c b L xs g) (hc : cells ≤ room_1.cells) (hs : slots ≤ room_1.slots) (hi : i + 5 ≤ L) (hL : L ≤ 320) (hl : lv_has ls 4 [(3, .int (nI i)), (2, .ref (g.2.2 + 127)), (1, .ref (g.2.2 + 0)), (0, .ref b)]) (hP : va_P g.1 vwCl (tm_ws g (List.range 143) M) H) (hS : va_S (fun q : Nat => s.heap.size ≤ q) s.heap H locs) (hR : Rel M M n)
    (kk : ∀ (H : Heap) (locs : List Loc) (M : tm_M) (n : Nat), va_P g.1 vwCl (tm_ws g (List.range 143) M) H → va_S (fun q : Nat => s.heap.size ≤ q) s.heap H locs → Rel M M n → W p l e room_1 s m #[Value.ref b] below meth c H locs cells slots Q (F0 m 783 ls [])) : W p l e room_1 s m #[Value.ref b] below meth c H locs cells slots Q (F0 m 585 ls []) := by
  obtain ⟨K0, hK, hG, hD, hX, hbl⟩ := id K
  obtain ⟨hx, hb, hml, hown, hts⟩ := id K0
  have hbA : ¬ (fun q : Nat => s.heap.size ≤ q) b := Nat.not_le.mpr hbl
  obtain ⟨r, M1, M2, n2, e1, e2, hR2⟩ := oOK_one (o_take (xs (nI i + 1).toNatClampNeg) (xs (nI i + 2).toNatClampNeg) (xs (nI i + 3).toNatClampNeg)) hR
  refine lv_aload_n hx hb dL_law_585 rfl (lv_at hl 2 rfl) ?_
  refine lv_aload_n hx hb dL_law_586 rfl (lv_at hl 3 rfl) ?_
  refine lv_iload_n hx hb dL_law_587 rfl (lv_at hl 0 rfl) ?_
  refine lv_iconst (v := 1) hx hb dL_law_588 (by decide) ?_
  refine lv_iadd hx hb dL_law_589 ?_
  refine va_sld hx hb hX hbl hbA hS (lw_in 1 (by decide) hi hL) dL_law_590 ?_
  refine lv_aload_n hx hb dL_law_591 rfl (lv_at hl 3 rfl) ?_
  refine lv_iload_n hx hb dL_law_592 rfl (lv_at hl 0 rfl) ?_
  refine lv_iconst (v := 2) hx hb dL_law_593 (by decide) ?_
  refine lv_iadd hx hb dL_law_594 ?_
  refine va_sld hx hb hX hbl hbA hS (lw_in 2 (by decide) hi hL) dL_law_595 ?_
  refine lv_aload_n hx hb dL_law_596 rfl (lv_at hl 3 rfl) ?_
  refine lv_iload_n hx hb dL_law_597 rfl (lv_at hl 0 rfl) ?_
  refine lv_iconst (v := 3) hx hb dL_law_598 (by decide) ?_
  refine lv_iadd hx hb dL_law_599 ?_
  refine va_sld hx hb hX hbl hbA hS (lw_in 3 (by decide) hi hL) dL_law_600 ?_
  refine tm_backI (fun _ q => q) (tm_callV (As := [.int (xs (nI i + 1).toNatClampNeg), .int (xs (nI i + 2).toNatClampNeg), .int (xs (nI i + 3).toNatClampNeg)]) (rest := []) K0 hK hG hP hS (c_X9_take l g _ _ hD lw_F _ (xs (nI i + 1).toNatClampNeg) (xs (nI i + 2).toNatClampNeg) (xs (nI i + 3).toNatClampNeg) _ e1) (cwV 3 hts gL_law_X9_take rfl rfl rfl (by decide +kernel) ⟨Nat.le_of_ble_eq_true rfl, Nat.le_of_ble_eq_true rfl⟩) (tm_recv hK hP (lw_F 0 (by decide)) (ci := 8) rfl (tm_mkX9 (by decide) _)) rfl hl.1 (lv_room (Nat.le_of_ble_eq_true rfl)) dL_law_601 ⟨hc, hs⟩) hS (fun H locs hP hS => ?_)
  refine lv_aload_n hx hb dL_law_604 rfl (lv_at hl 1 rfl) ?_
  refine lv_aload_n hx hb dL_law_605 rfl (lv_at hl 3 rfl) ?_
  refine lv_iload_n hx hb dL_law_606 rfl (lv_at hl 0 rfl) ?_
  refine lv_iconst (v := 1) hx hb dL_law_607 (by decide) ?_
  refine lv_iadd hx hb dL_law_608 ?_
  refine va_sld hx hb hX hbl hbA hS (lw_in 1 (by decide) hi hL) dL_law_609 ?_
  refine lv_aload_n hx hb dL_law_610 rfl (lv_at hl 3 rfl) ?_
  refine lv_iload_n hx hb dL_law_611 rfl (lv_at hl 0 rfl) ?_
  refine lv_iconst (v := 2) hx hb dL_law_612 (by decide) ?_
  refine lv_iadd hx hb dL_law_613 ?_
  refine va_sld hx hb hX hbl hbA hS (lw_in 2 (by decide) hi hL) dL_law_614 ?_
  refine lv_aload_n hx hb dL_law_615 rfl (lv_at hl 3 rfl) ?_
  refine lv_iload_n hx hb dL_law_616 rfl (lv_at hl 0 rfl) ?_
  refine lv_iconst (v := 3) hx hb dL_law_617 (by decide) ?_
  refine lv_iadd hx hb dL_law_618 ?_
  refine va_sld hx hb hX hbl hbA hS (lw_in 3 (by decide) hi hL) dL_law_619 ?_
  refine tm_backI (fun _ q => q) (tm_callV (As := [.int (xs (nI i + 1).toNatClampNeg), .int (xs (nI i + 2).toNatClampNeg), .int (xs (nI i + 3).toNatClampNeg)]) (rest := [.int _]) K0 hK hG hP hS (c_X10_take l g _ _ hD lw_F _ (xs (nI i + 1).toNatClampNeg) (xs (nI i + 2).toNatClampNeg) (xs (nI i + 3).toNatClampNeg) _ e2) (cwV 3 hts gL_law_X10_take rfl rfl rfl (by decide +kernel) ⟨Nat.le_of_ble_eq_true rfl, Nat.le_of_ble_eq_true rfl⟩) (tm_recv hK hP (lw_F 127 (by decide)) (ci := 9) rfl (tm_mkX10 (by decide) _)) rfl hl.1 (lv_room (Nat.le_of_ble_eq_true rfl)) dL_law_620 ⟨hc, hs⟩) hS (fun H locs hP hS => ?_)
  refine lv_icmp_eq (tgt := 783) hx hb dL_law_623 (by decide) (fun _ => kk H locs _ n2 hP hS hR2) (fun c1 => absurd rfl c1)
set_option maxHeartbeats 1000000 in
set_option maxRecDepth 100000 in
theorem lw_c20 {p : Program} {l : Launch} {e : Env} {s : State} {m : MethodId} {below : List Frame} {meth : Method} {c : Code} {b L : Nat} {xs : Nat → Int32} {g : tm_G} {H : Heap} {locs : List Loc} {cells slots : Nat} {Q : State → Prop} {ls : Array Slot} {M : tm_M} {n i : Nat} (K : lw_K p s m c b L xs g) (hc : cells ≤ room_1.cells) (hs : slots ≤ room_1.slots) (hi : i + 5 ≤ L) (hL : L ≤ 320) (hl : lv_has ls 4 [(3, .int (nI i)), (2, .ref (g.2.2 + 127)), (1, .ref (g.2.2 + 0)), (0, .ref b)]) (hP : va_P g.1 vwCl (tm_ws g (List.range 143) M) H) (hS : va_S (fun q : Nat => s.heap.size ≤ q) s.heap H locs) (hR : Rel M M n)
    (kk : ∀ (H : Heap) (locs : List Loc) (M : tm_M) (n : Nat), va_P g.1 vwCl (tm_ws g (List.range 143) M) H → va_S (fun q : Nat => s.heap.size ≤ q) s.heap H locs → Rel M M n → W p l e room_1 s m #[Value.ref b] below meth c H locs cells slots Q (F0 m 783 ls [])) : W p l e room_1 s m #[Value.ref b] below meth c H locs cells slots Q (F0 m 628 ls []) := by
  obtain ⟨K0, hK, hG, hD, hX, hbl⟩ := id K
  obtain ⟨hx, hb, hml, hown, hts⟩ := id K0
  have hbA : ¬ (fun q : Nat => s.heap.size ≤ q) b := Nat.not_le.mpr hbl
  obtain ⟨r, M1, M2, n2, e1, e2, hR2⟩ := oOK_one (o_seen (xs (nI i + 1).toNatClampNeg) (xs (nI i + 2).toNatClampNeg) (xs (nI i + 3).toNatClampNeg)) hR
  refine lv_aload_n hx hb dL_law_628 rfl (lv_at hl 2 rfl) ?_
  refine lv_aload_n hx hb dL_law_629 rfl (lv_at hl 3 rfl) ?_
  refine lv_iload_n hx hb dL_law_630 rfl (lv_at hl 0 rfl) ?_
  refine lv_iconst (v := 1) hx hb dL_law_631 (by decide) ?_
  refine lv_iadd hx hb dL_law_632 ?_
  refine va_sld hx hb hX hbl hbA hS (lw_in 1 (by decide) hi hL) dL_law_633 ?_
  refine lv_aload_n hx hb dL_law_634 rfl (lv_at hl 3 rfl) ?_
  refine lv_iload_n hx hb dL_law_635 rfl (lv_at hl 0 rfl) ?_
  refine lv_iconst (v := 2) hx hb dL_law_636 (by decide) ?_
  refine lv_iadd hx hb dL_law_637 ?_
  refine va_sld hx hb hX hbl hbA hS (lw_in 2 (by decide) hi hL) dL_law_638 ?_
  refine lv_aload_n hx hb dL_law_639 rfl (lv_at hl 3 rfl) ?_
  refine lv_iload_n hx hb dL_law_640 rfl (lv_at hl 0 rfl) ?_
  refine lv_iconst (v := 3) hx hb dL_law_641 (by decide) ?_
  refine lv_iadd hx hb dL_law_642 ?_
  refine va_sld hx hb hX hbl hbA hS (lw_in 3 (by decide) hi hL) dL_law_643 ?_
  refine tm_backI (fun _ q => q) (tm_callV (As := [.int (xs (nI i + 1).toNatClampNeg), .int (xs (nI i + 2).toNatClampNeg), .int (xs (nI i + 3).toNatClampNeg)]) (rest := []) K0 hK hG hP hS (c_X9_seen l g _ _ hD lw_F _ (xs (nI i + 1).toNatClampNeg) (xs (nI i + 2).toNatClampNeg) (xs (nI i + 3).toNatClampNeg) _ e1) (cwV 3 hts gL_law_X9_seen rfl rfl rfl (by decide +kernel) ⟨Nat.le_of_ble_eq_true rfl, Nat.le_of_ble_eq_true rfl⟩) (tm_recv hK hP (lw_F 0 (by decide)) (ci := 8) rfl (tm_mkX9 (by decide) _)) rfl hl.1 (lv_room (Nat.le_of_ble_eq_true rfl)) dL_law_644 ⟨hc, hs⟩) hS (fun H locs hP hS => ?_)
  refine lv_aload_n hx hb dL_law_647 rfl (lv_at hl 1 rfl) ?_
  refine lv_aload_n hx hb dL_law_648 rfl (lv_at hl 3 rfl) ?_
  refine lv_iload_n hx hb dL_law_649 rfl (lv_at hl 0 rfl) ?_
  refine lv_iconst (v := 1) hx hb dL_law_650 (by decide) ?_
  refine lv_iadd hx hb dL_law_651 ?_
  refine va_sld hx hb hX hbl hbA hS (lw_in 1 (by decide) hi hL) dL_law_652 ?_
  refine lv_aload_n hx hb dL_law_653 rfl (lv_at hl 3 rfl) ?_
  refine lv_iload_n hx hb dL_law_654 rfl (lv_at hl 0 rfl) ?_
  refine lv_iconst (v := 2) hx hb dL_law_655 (by decide) ?_
  refine lv_iadd hx hb dL_law_656 ?_
  refine va_sld hx hb hX hbl hbA hS (lw_in 2 (by decide) hi hL) dL_law_657 ?_
  refine lv_aload_n hx hb dL_law_658 rfl (lv_at hl 3 rfl) ?_
  refine lv_iload_n hx hb dL_law_659 rfl (lv_at hl 0 rfl) ?_
  refine lv_iconst (v := 3) hx hb dL_law_660 (by decide) ?_
  refine lv_iadd hx hb dL_law_661 ?_
  refine va_sld hx hb hX hbl hbA hS (lw_in 3 (by decide) hi hL) dL_law_662 ?_
  refine tm_backI (fun _ q => q) (tm_callV (As := [.int (xs (nI i + 1).toNatClampNeg), .int (xs (nI i + 2).toNatClampNeg), .int (xs (nI i + 3).toNatClampNeg)]) (rest := [.int _]) K0 hK hG hP hS (c_X10_seen l g _ _ hD lw_F _ (xs (nI i + 1).toNatClampNeg) (xs (nI i + 2).toNatClampNeg) (xs (nI i + 3).toNatClampNeg) _ e2) (cwV 3 hts gL_law_X10_seen rfl rfl rfl (by decide +kernel) ⟨Nat.le_of_ble_eq_true rfl, Nat.le_of_ble_eq_true rfl⟩) (tm_recv hK hP (lw_F 127 (by decide)) (ci := 9) rfl (tm_mkX10 (by decide) _)) rfl hl.1 (lv_room (Nat.le_of_ble_eq_true rfl)) dL_law_663 ⟨hc, hs⟩) hS (fun H locs hP hS => ?_)
  refine lv_icmp_eq (tgt := 783) hx hb dL_law_666 (by decide) (fun _ => kk H locs _ n2 hP hS hR2) (fun c1 => absurd rfl c1)
set_option maxHeartbeats 1000000 in
set_option maxRecDepth 100000 in
theorem lw_c21 {p : Program} {l : Launch} {e : Env} {s : State} {m : MethodId} {below : List Frame} {meth : Method} {c : Code} {b L : Nat} {xs : Nat → Int32} {g : tm_G} {H : Heap} {locs : List Loc} {cells slots : Nat} {Q : State → Prop} {ls : Array Slot} {M : tm_M} {n i : Nat} (K : lw_K p s m c b L xs g) (hc : cells ≤ room_1.cells) (hs : slots ≤ room_1.slots) (hi : i + 5 ≤ L) (hL : L ≤ 320) (hl : lv_has ls 4 [(3, .int (nI i)), (2, .ref (g.2.2 + 127)), (1, .ref (g.2.2 + 0)), (0, .ref b)]) (hP : va_P g.1 vwCl (tm_ws g (List.range 143) M) H) (hS : va_S (fun q : Nat => s.heap.size ≤ q) s.heap H locs) (hR : Rel M M n)
    (kk : ∀ (H : Heap) (locs : List Loc) (M : tm_M) (n : Nat), va_P g.1 vwCl (tm_ws g (List.range 143) M) H → va_S (fun q : Nat => s.heap.size ≤ q) s.heap H locs → Rel M M n → W p l e room_1 s m #[Value.ref b] below meth c H locs cells slots Q (F0 m 783 ls [])) : W p l e room_1 s m #[Value.ref b] below meth c H locs cells slots Q (F0 m 671 ls []) := by
  obtain ⟨K0, hK, hG, hD, hX, hbl⟩ := id K
  obtain ⟨hx, hb, hml, hown, hts⟩ := id K0
  have hbA : ¬ (fun q : Nat => s.heap.size ≤ q) b := Nat.not_le.mpr hbl
  obtain ⟨r, M1, M2, n2, e1, e2, hR2⟩ := oOK_one (o_forget ) hR
  refine lv_aload_n hx hb dL_law_671 rfl (lv_at hl 2 rfl) ?_
  refine tm_backI (fun _ q => q) (tm_callV (As := []) (rest := []) K0 hK hG hP hS (c_X9_forget l g _ _ hD lw_F _  _ e1) (cwV 0 hts gL_law_X9_forget rfl rfl rfl (by decide +kernel) ⟨Nat.le_of_ble_eq_true rfl, Nat.le_of_ble_eq_true rfl⟩) (tm_recv hK hP (lw_F 0 (by decide)) (ci := 8) rfl (tm_mkX9 (by decide) _)) rfl hl.1 (lv_room (Nat.le_of_ble_eq_true rfl)) dL_law_672 ⟨hc, hs⟩) hS (fun H locs hP hS => ?_)
  refine lv_aload_n hx hb dL_law_675 rfl (lv_at hl 1 rfl) ?_
  refine tm_backI (fun _ q => q) (tm_callV (As := []) (rest := [.int _]) K0 hK hG hP hS (c_X10_forget l g _ _ hD lw_F _  _ e2) (cwV 0 hts gL_law_X10_forget rfl rfl rfl (by decide +kernel) ⟨Nat.le_of_ble_eq_true rfl, Nat.le_of_ble_eq_true rfl⟩) (tm_recv hK hP (lw_F 127 (by decide)) (ci := 9) rfl (tm_mkX10 (by decide) _)) rfl hl.1 (lv_room (Nat.le_of_ble_eq_true rfl)) dL_law_676 ⟨hc, hs⟩) hS (fun H locs hP hS => ?_)
  refine lv_icmp_eq (tgt := 783) hx hb dL_law_679 (by decide) (fun _ => kk H locs _ n2 hP hS hR2) (fun c1 => absurd rfl c1)
set_option maxHeartbeats 1000000 in
set_option maxRecDepth 100000 in
theorem lw_c22 {p : Program} {l : Launch} {e : Env} {s : State} {m : MethodId} {below : List Frame} {meth : Method} {c : Code} {b L : Nat} {xs : Nat → Int32} {g : tm_G} {H : Heap} {locs : List Loc} {cells slots : Nat} {Q : State → Prop} {ls : Array Slot} {M : tm_M} {n i : Nat} (K : lw_K p s m c b L xs g) (hc : cells ≤ room_1.cells) (hs : slots ≤ room_1.slots) (hi : i + 5 ≤ L) (hL : L ≤ 320) (hl : lv_has ls 4 [(3, .int (nI i)), (2, .ref (g.2.2 + 127)), (1, .ref (g.2.2 + 0)), (0, .ref b)]) (hP : va_P g.1 vwCl (tm_ws g (List.range 143) M) H) (hS : va_S (fun q : Nat => s.heap.size ≤ q) s.heap H locs) (hR : Rel M M n)
    (kk : ∀ (H : Heap) (locs : List Loc) (M : tm_M) (n : Nat), va_P g.1 vwCl (tm_ws g (List.range 143) M) H → va_S (fun q : Nat => s.heap.size ≤ q) s.heap H locs → Rel M M n → W p l e room_1 s m #[Value.ref b] below meth c H locs cells slots Q (F0 m 783 ls [])) : W p l e room_1 s m #[Value.ref b] below meth c H locs cells slots Q (F0 m 684 ls []) := by
  obtain ⟨K0, hK, hG, hD, hX, hbl⟩ := id K
  obtain ⟨hx, hb, hml, hown, hts⟩ := id K0
  have hbA : ¬ (fun q : Nat => s.heap.size ≤ q) b := Nat.not_le.mpr hbl
  obtain ⟨r, M1, M2, n2, e1, e2, hR2⟩ := oOK_one (o_tempers (xs (nI i + 1).toNatClampNeg)) hR
  refine lv_aload_n hx hb dL_law_684 rfl (lv_at hl 2 rfl) ?_
  refine lv_aload_n hx hb dL_law_685 rfl (lv_at hl 3 rfl) ?_
  refine lv_iload_n hx hb dL_law_686 rfl (lv_at hl 0 rfl) ?_
  refine lv_iconst (v := 1) hx hb dL_law_687 (by decide) ?_
  refine lv_iadd hx hb dL_law_688 ?_
  refine va_sld hx hb hX hbl hbA hS (lw_in 1 (by decide) hi hL) dL_law_689 ?_
  refine tm_backI (fun _ q => q) (tm_callV (As := [.int (xs (nI i + 1).toNatClampNeg)]) (rest := []) K0 hK hG hP hS (c_X9_tempers l g _ _ hD lw_F _ (xs (nI i + 1).toNatClampNeg) _ e1) (cwV 1 hts gL_law_X9_tempers rfl rfl rfl (by decide +kernel) ⟨Nat.le_of_ble_eq_true rfl, Nat.le_of_ble_eq_true rfl⟩) (tm_recv hK hP (lw_F 0 (by decide)) (ci := 8) rfl (tm_mkX9 (by decide) _)) rfl hl.1 (lv_room (Nat.le_of_ble_eq_true rfl)) dL_law_690 ⟨hc, hs⟩) hS (fun H locs hP hS => ?_)
  refine lv_aload_n hx hb dL_law_693 rfl (lv_at hl 1 rfl) ?_
  refine lv_aload_n hx hb dL_law_694 rfl (lv_at hl 3 rfl) ?_
  refine lv_iload_n hx hb dL_law_695 rfl (lv_at hl 0 rfl) ?_
  refine lv_iconst (v := 1) hx hb dL_law_696 (by decide) ?_
  refine lv_iadd hx hb dL_law_697 ?_
  refine va_sld hx hb hX hbl hbA hS (lw_in 1 (by decide) hi hL) dL_law_698 ?_
  refine tm_backI (fun _ q => q) (tm_callV (As := [.int (xs (nI i + 1).toNatClampNeg)]) (rest := [.int _]) K0 hK hG hP hS (c_X10_tempers l g _ _ hD lw_F _ (xs (nI i + 1).toNatClampNeg) _ e2) (cwV 1 hts gL_law_X10_tempers rfl rfl rfl (by decide +kernel) ⟨Nat.le_of_ble_eq_true rfl, Nat.le_of_ble_eq_true rfl⟩) (tm_recv hK hP (lw_F 127 (by decide)) (ci := 9) rfl (tm_mkX10 (by decide) _)) rfl hl.1 (lv_room (Nat.le_of_ble_eq_true rfl)) dL_law_699 ⟨hc, hs⟩) hS (fun H locs hP hS => ?_)
  refine lv_icmp_eq (tgt := 783) hx hb dL_law_702 (by decide) (fun _ => kk H locs _ n2 hP hS hR2) (fun c1 => absurd rfl c1)
set_option maxHeartbeats 1000000 in
set_option maxRecDepth 100000 in
theorem lw_c23 {p : Program} {l : Launch} {e : Env} {s : State} {m : MethodId} {below : List Frame} {meth : Method} {c : Code} {b L : Nat} {xs : Nat → Int32} {g : tm_G} {H : Heap} {locs : List Loc} {cells slots : Nat} {Q : State → Prop} {ls : Array Slot} {M : tm_M} {n i : Nat} (K : lw_K p s m c b L xs g) (hc : cells ≤ room_1.cells) (hs : slots ≤ room_1.slots) (hi : i + 5 ≤ L) (hL : L ≤ 320) (hl : lv_has ls 4 [(3, .int (nI i)), (2, .ref (g.2.2 + 127)), (1, .ref (g.2.2 + 0)), (0, .ref b)]) (hP : va_P g.1 vwCl (tm_ws g (List.range 143) M) H) (hS : va_S (fun q : Nat => s.heap.size ≤ q) s.heap H locs) (hR : Rel M M n)
    (kk : ∀ (H : Heap) (locs : List Loc) (M : tm_M) (n : Nat), va_P g.1 vwCl (tm_ws g (List.range 143) M) H → va_S (fun q : Nat => s.heap.size ≤ q) s.heap H locs → Rel M M n → W p l e room_1 s m #[Value.ref b] below meth c H locs cells slots Q (F0 m 783 ls [])) : W p l e room_1 s m #[Value.ref b] below meth c H locs cells slots Q (F0 m 707 ls []) := by
  obtain ⟨K0, hK, hG, hD, hX, hbl⟩ := id K
  obtain ⟨hx, hb, hml, hown, hts⟩ := id K0
  have hbA : ¬ (fun q : Nat => s.heap.size ≤ q) b := Nat.not_le.mpr hbl
  obtain ⟨r, M1, M2, n2, e1, e2, hR2⟩ := oOK_one (o_mothers (xs (nI i + 1).toNatClampNeg) (xs (nI i + 2).toNatClampNeg) (xs (nI i + 3).toNatClampNeg) (xs (nI i + 4).toNatClampNeg)) hR
  refine lv_aload_n hx hb dL_law_707 rfl (lv_at hl 2 rfl) ?_
  refine lv_aload_n hx hb dL_law_708 rfl (lv_at hl 3 rfl) ?_
  refine lv_iload_n hx hb dL_law_709 rfl (lv_at hl 0 rfl) ?_
  refine lv_iconst (v := 1) hx hb dL_law_710 (by decide) ?_
  refine lv_iadd hx hb dL_law_711 ?_
  refine va_sld hx hb hX hbl hbA hS (lw_in 1 (by decide) hi hL) dL_law_712 ?_
  refine lv_aload_n hx hb dL_law_713 rfl (lv_at hl 3 rfl) ?_
  refine lv_iload_n hx hb dL_law_714 rfl (lv_at hl 0 rfl) ?_
  refine lv_iconst (v := 2) hx hb dL_law_715 (by decide) ?_
  refine lv_iadd hx hb dL_law_716 ?_
  refine va_sld hx hb hX hbl hbA hS (lw_in 2 (by decide) hi hL) dL_law_717 ?_
  refine lv_aload_n hx hb dL_law_718 rfl (lv_at hl 3 rfl) ?_
  refine lv_iload_n hx hb dL_law_719 rfl (lv_at hl 0 rfl) ?_
  refine lv_iconst (v := 3) hx hb dL_law_720 (by decide) ?_
  refine lv_iadd hx hb dL_law_721 ?_
  refine va_sld hx hb hX hbl hbA hS (lw_in 3 (by decide) hi hL) dL_law_722 ?_
  refine lv_aload_n hx hb dL_law_723 rfl (lv_at hl 3 rfl) ?_
  refine lv_iload_n hx hb dL_law_724 rfl (lv_at hl 0 rfl) ?_
  refine lv_iconst (v := 4) hx hb dL_law_725 (by decide) ?_
  refine lv_iadd hx hb dL_law_726 ?_
  refine va_sld hx hb hX hbl hbA hS (lw_in 4 (by decide) hi hL) dL_law_727 ?_
  refine tm_backI (fun _ q => q) (tm_callV (As := [.int (xs (nI i + 1).toNatClampNeg), .int (xs (nI i + 2).toNatClampNeg), .int (xs (nI i + 3).toNatClampNeg), .int (xs (nI i + 4).toNatClampNeg)]) (rest := []) K0 hK hG hP hS (c_X9_mothers l g _ _ hD lw_F _ (xs (nI i + 1).toNatClampNeg) (xs (nI i + 2).toNatClampNeg) (xs (nI i + 3).toNatClampNeg) (xs (nI i + 4).toNatClampNeg) _ e1) (cwV 4 hts gL_law_X9_mothers rfl rfl rfl (by decide +kernel) ⟨Nat.le_of_ble_eq_true rfl, Nat.le_of_ble_eq_true rfl⟩) (tm_recv hK hP (lw_F 0 (by decide)) (ci := 8) rfl (tm_mkX9 (by decide) _)) rfl hl.1 (lv_room (Nat.le_of_ble_eq_true rfl)) dL_law_728 ⟨hc, hs⟩) hS (fun H locs hP hS => ?_)
  refine lv_aload_n hx hb dL_law_731 rfl (lv_at hl 1 rfl) ?_
  refine lv_aload_n hx hb dL_law_732 rfl (lv_at hl 3 rfl) ?_
  refine lv_iload_n hx hb dL_law_733 rfl (lv_at hl 0 rfl) ?_
  refine lv_iconst (v := 1) hx hb dL_law_734 (by decide) ?_
  refine lv_iadd hx hb dL_law_735 ?_
  refine va_sld hx hb hX hbl hbA hS (lw_in 1 (by decide) hi hL) dL_law_736 ?_
  refine lv_aload_n hx hb dL_law_737 rfl (lv_at hl 3 rfl) ?_
  refine lv_iload_n hx hb dL_law_738 rfl (lv_at hl 0 rfl) ?_
  refine lv_iconst (v := 2) hx hb dL_law_739 (by decide) ?_
  refine lv_iadd hx hb dL_law_740 ?_
  refine va_sld hx hb hX hbl hbA hS (lw_in 2 (by decide) hi hL) dL_law_741 ?_
  refine lv_aload_n hx hb dL_law_742 rfl (lv_at hl 3 rfl) ?_
  refine lv_iload_n hx hb dL_law_743 rfl (lv_at hl 0 rfl) ?_
  refine lv_iconst (v := 3) hx hb dL_law_744 (by decide) ?_
  refine lv_iadd hx hb dL_law_745 ?_
  refine va_sld hx hb hX hbl hbA hS (lw_in 3 (by decide) hi hL) dL_law_746 ?_
  refine lv_aload_n hx hb dL_law_747 rfl (lv_at hl 3 rfl) ?_
  refine lv_iload_n hx hb dL_law_748 rfl (lv_at hl 0 rfl) ?_
  refine lv_iconst (v := 4) hx hb dL_law_749 (by decide) ?_
  refine lv_iadd hx hb dL_law_750 ?_
  refine va_sld hx hb hX hbl hbA hS (lw_in 4 (by decide) hi hL) dL_law_751 ?_
  refine tm_backI (fun _ q => q) (tm_callV (As := [.int (xs (nI i + 1).toNatClampNeg), .int (xs (nI i + 2).toNatClampNeg), .int (xs (nI i + 3).toNatClampNeg), .int (xs (nI i + 4).toNatClampNeg)]) (rest := [.int _]) K0 hK hG hP hS (c_X10_mothers l g _ _ hD lw_F _ (xs (nI i + 1).toNatClampNeg) (xs (nI i + 2).toNatClampNeg) (xs (nI i + 3).toNatClampNeg) (xs (nI i + 4).toNatClampNeg) _ e2) (cwV 4 hts gL_law_X10_mothers rfl rfl rfl (by decide +kernel) ⟨Nat.le_of_ble_eq_true rfl, Nat.le_of_ble_eq_true rfl⟩) (tm_recv hK hP (lw_F 127 (by decide)) (ci := 9) rfl (tm_mkX10 (by decide) _)) rfl hl.1 (lv_room (Nat.le_of_ble_eq_true rfl)) dL_law_752 ⟨hc, hs⟩) hS (fun H locs hP hS => ?_)
  refine lv_icmp_eq (tgt := 783) hx hb dL_law_755 (by decide) (fun _ => kk H locs _ n2 hP hS hR2) (fun c1 => absurd rfl c1)
set_option maxHeartbeats 1000000 in
set_option maxRecDepth 100000 in
theorem lw_c24 {p : Program} {l : Launch} {e : Env} {s : State} {m : MethodId} {below : List Frame} {meth : Method} {c : Code} {b L : Nat} {xs : Nat → Int32} {g : tm_G} {H : Heap} {locs : List Loc} {cells slots : Nat} {Q : State → Prop} {ls : Array Slot} {M : tm_M} {n i : Nat} (K : lw_K p s m c b L xs g) (hc : cells ≤ room_1.cells) (hs : slots ≤ room_1.slots) (hi : i + 5 ≤ L) (hL : L ≤ 320) (hl : lv_has ls 4 [(3, .int (nI i)), (2, .ref (g.2.2 + 127)), (1, .ref (g.2.2 + 0)), (0, .ref b)]) (hP : va_P g.1 vwCl (tm_ws g (List.range 143) M) H) (hS : va_S (fun q : Nat => s.heap.size ≤ q) s.heap H locs) (hR : Rel M M n)
    (kk : ∀ (H : Heap) (locs : List Loc) (M : tm_M) (n : Nat), va_P g.1 vwCl (tm_ws g (List.range 143) M) H → va_S (fun q : Nat => s.heap.size ≤ q) s.heap H locs → Rel M M n → W p l e room_1 s m #[Value.ref b] below meth c H locs cells slots Q (F0 m 783 ls [])) : W p l e room_1 s m #[Value.ref b] below meth c H locs cells slots Q (F0 m 760 ls []) := by
  obtain ⟨K0, hK, hG, hD, hX, hbl⟩ := id K
  obtain ⟨hx, hb, hml, hown, hts⟩ := id K0
  have hbA : ¬ (fun q : Nat => s.heap.size ≤ q) b := Nat.not_le.mpr hbl
  obtain ⟨r, M1, M2, n2, e1, e2, hR2⟩ := oOK_one (o_count (xs (nI i + 1).toNatClampNeg)) hR
  obtain ⟨r2, eb, g2⟩ := tm_bd_some e2
  obtain ⟨rfl, rfl⟩ := Prod.mk.inj (Option.some.inj g2)
  refine lv_aload_n hx hb dL_law_760 rfl (lv_at hl 2 rfl) ?_
  refine lv_aload_n hx hb dL_law_761 rfl (lv_at hl 3 rfl) ?_
  refine lv_iload_n hx hb dL_law_762 rfl (lv_at hl 0 rfl) ?_
  refine lv_iconst (v := 1) hx hb dL_law_763 (by decide) ?_
  refine lv_iadd hx hb dL_law_764 ?_
  refine va_sld hx hb hX hbl hbA hS (lw_in 1 (by decide) hi hL) dL_law_765 ?_
  refine tm_backI (fun _ q => q) (tm_callV (As := [.int (xs (nI i + 1).toNatClampNeg)]) (rest := []) K0 hK hG hP hS (c_X9_count l g _ _ hD lw_F _ (xs (nI i + 1).toNatClampNeg) _ e1) (cwV 1 hts gL_law_X9_count rfl rfl rfl (by decide +kernel) ⟨Nat.le_of_ble_eq_true rfl, Nat.le_of_ble_eq_true rfl⟩) (tm_recv hK hP (lw_F 0 (by decide)) (ci := 8) rfl (tm_mkX9 (by decide) _)) rfl hl.1 (lv_room (Nat.le_of_ble_eq_true rfl)) dL_law_766 ⟨hc, hs⟩) hS (fun H locs hP hS => ?_)
  refine lv_aload_n hx hb dL_law_769 rfl (lv_at hl 1 rfl) ?_
  refine lv_aload_n hx hb dL_law_770 rfl (lv_at hl 3 rfl) ?_
  refine lv_iload_n hx hb dL_law_771 rfl (lv_at hl 0 rfl) ?_
  refine lv_iconst (v := 1) hx hb dL_law_772 (by decide) ?_
  refine lv_iadd hx hb dL_law_773 ?_
  refine va_sld hx hb hX hbl hbA hS (lw_in 1 (by decide) hi hL) dL_law_774 ?_
  refine tm_backI (fun _ q => q) (tm_callV (As := [.int (xs (nI i + 1).toNatClampNeg)]) (rest := [.int _]) K0 hK hG hP hS (c_X10_count l g _ _ hD lw_F _ (xs (nI i + 1).toNatClampNeg) _ eb) (cwV 1 hts gL_law_X10_count rfl rfl rfl (by decide +kernel) ⟨Nat.le_of_ble_eq_true rfl, Nat.le_of_ble_eq_true rfl⟩) (tm_recv hK hP (lw_F 127 (by decide)) (ci := 9) rfl (tm_mkX10 (by decide) _)) rfl hl.1 (lv_room (Nat.le_of_ble_eq_true rfl)) dL_law_775 ⟨hc, hs⟩) hS (fun H locs hP hS => ?_)
  refine lv_icmp_eq (tgt := 783) hx hb dL_law_778 (by decide) (fun _ => kk H locs _ n2 hP hS hR2) (fun c1 => absurd rfl c1)
