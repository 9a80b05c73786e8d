/-! X10_in -/
def f_X10_in (p0 : Int32) (p1 : Int32) (p2 : Int32) : Option Int32 :=
  if p0 < p1 then
    some 0
  else
    if p2 < p0 then
      some 0
    else
      some 1
set_option maxHeartbeats 4000000 in
set_option maxRecDepth 100000 in
theorem c_X10_in (l : Launch) (g : tm_G) (A : Nat → Prop) (L : List Nat) (hD : ∀ M, va_D A (tm_ws g L M)) (hF : ∀ o, tm_all o → o ∈ L) (M : tm_M) (p0 : Int32) (p1 : Int32) (p2 : Int32) (r0 : Int32) (h : f_X10_in p0 p1 p2 = some r0) : Met l yX10_in wsX10_in { frames := 0, cells := 0, slots := 0, locals := 0 } (tm_PC g A L M [.int p0, .int p1, .int p2]) (tm_QI g A L (r0, M)) 0 0 A := by
  refine tm_start (cc := cX10_in) (nL := 3) (ret := (some .boolean)) (F := tm_all) (plainFor_of_name (by decide)) rfl (Nat.le_of_ble_eq_true rfl) hD hF (fun p e s m args below meth c ls C0 hP hS hl => ?_)
  have hl : lv_has ls 3 [(0, .int p0), (1, .int p1), (2, .int p2)] := hl
  have C0 : tm_C p m c cX10_in 3 s args wsX10_in RX10 meth (some .boolean) g A L tm_all := C0
  obtain ⟨⟨hx, hb, hml, hown, hts⟩, hr, hlk, hK, hD, hG, hF⟩ := id C0
  unfold f_X10_in at h
  refine lv_iload_n hx hb dX10_in_0 rfl (lv_at hl 0 rfl) ?_
  refine lv_iload_n hx hb dX10_in_1 rfl (lv_at hl 1 rfl) ?_
  refine lv_icmp_lt (tgt := 14) hx hb dX10_in_2 (by decide) (fun c1 => ?_) (fun c1 => ?_)
  · rw [if_pos c1] at h
    refine lv_iconst (v := 0) hx hb dX10_in_14 (by decide) ?_
    exact tm_zret C0 (by unfold tm_isB; decide) (by rw [Option.some.inj h]) hP hS dX10_in_15
  · rw [if_neg c1] at h
    refine lv_iload_n hx hb dX10_in_5 rfl (lv_at hl 0 rfl) ?_
    refine lv_iload_n hx hb dX10_in_6 rfl (lv_at hl 2 rfl) ?_
    refine lv_icmp_gt (tgt := 14) hx hb dX10_in_7 (by decide) (fun c2 => ?_) (fun c2 => ?_)
    · rw [if_pos c2] at h
      refine lv_iconst (v := 0) hx hb dX10_in_14 (by decide) ?_
      exact tm_zret C0 (by unfold tm_isB; decide) (by rw [Option.some.inj h]) hP hS dX10_in_15
    · rw [if_neg c2] at h
      refine lv_iconst (v := 1) hx hb dX10_in_10 (by decide) ?_
      refine lv_goto (tgt := 15) hx hb dX10_in_11 (by decide) ?_
      exact tm_zret C0 (by unfold tm_isB; decide) (by rw [Option.some.inj h]) hP hS dX10_in_15
/-! X10_has -/
def f_X10_has (p0 : Int32) (p1 : Int32) : Option Int32 :=
  if ((p0 >>> (p1 &&& 31)) &&& 1) = 1 then
    some 1
  else
    some 0
set_option maxHeartbeats 4000000 in
set_option maxRecDepth 100000 in
theorem c_X10_has (l : Launch) (g : tm_G) (A : Nat → Prop) (L : List Nat) (hD : ∀ M, va_D A (tm_ws g L M)) (hF : ∀ o, tm_all o → o ∈ L) (M : tm_M) (p0 : Int32) (p1 : Int32) (r0 : Int32) (h : f_X10_has p0 p1 = some r0) : Met l yX10_has wsX10_has { frames := 0, cells := 0, slots := 0, locals := 0 } (tm_PC g A L M [.int p0, .int p1]) (tm_QI g A L (r0, M)) 0 0 A := by
  refine tm_start (cc := cX10_has) (nL := 2) (ret := (some .boolean)) (F := tm_all) (plainFor_of_name (by decide)) rfl (Nat.le_of_ble_eq_true rfl) hD hF (fun p e s m args below meth c ls C0 hP hS hl => ?_)
  have hl : lv_has ls 2 [(0, .int p0), (1, .int p1)] := hl
  have C0 : tm_C p m c cX10_has 2 s args wsX10_has RX10 meth (some .boolean) g A L tm_all := C0
  obtain ⟨⟨hx, hb, hml, hown, hts⟩, hr, hlk, hK, hD, hG, hF⟩ := id C0
  unfold f_X10_has at h
  refine lv_iload_n hx hb dX10_has_0 rfl (lv_at hl 0 rfl) ?_
  refine lv_iload_n hx hb dX10_has_1 rfl (lv_at hl 1 rfl) ?_
  refine lv_ishr hx hb dX10_has_2 ?_
  refine lv_iconst (v := 1) hx hb dX10_has_3 (by decide) ?_
  refine lv_iand hx hb dX10_has_4 ?_
  refine lv_iconst (v := 1) hx hb dX10_has_5 (by decide) ?_
  refine lv_icmp_ne (tgt := 13) hx hb dX10_has_6 (by decide) (fun c1 => ?_) (fun c1 => ?_)
  · rw [if_neg c1] at h
    refine lv_iconst (v := 0) hx hb dX10_has_13 (by decide) ?_
    exact tm_zret C0 (by unfold tm_isB; decide) (by rw [Option.some.inj h]) hP hS dX10_has_14
  · rw [if_pos c1] at h
    refine lv_iconst (v := 1) hx hb dX10_has_9 (by decide) ?_
    refine lv_goto (tgt := 14) hx hb dX10_has_10 (by decide) ?_
    exact tm_zret C0 (by unfold tm_isB; decide) (by rw [Option.some.inj h]) hP hS dX10_has_14
/-! X10_bits -/
def f_X10_bits_L4 (k : Int32 → Int32 → Option Int32) (w0 : Int32) : Nat → Int32 → Int32 → Option Int32
  | 0, _, _ => none
  | n + 1, v1, v2 =>
    if 6 ≤ v2 then
      k v1 v2
    else
      (some (v1 + ((w0 >>> (v2 &&& 31)) &&& 1))).bind fun x2 =>
      f_X10_bits_L4 k w0 n x2 (v2 + 1)
def f_X10_bits (p0 : Int32) : Option Int32 :=
  f_X10_bits_L4 (fun v3 v4 =>
    some v3) p0 1000 0 0
set_option maxHeartbeats 4000000 in
set_option maxRecDepth 100000 in
theorem w_X10_bits_L4 {p : Program} {l : Launch} {e : Env} {s : State} {m : MethodId} {args : Array Value} {below : List Frame} {meth : Method} {c : Code} {g : tm_G} {A : Nat → Prop} {L : List Nat} (C0 : tm_C p m c cX10_bits 3 s args wsX10_bits RX10 meth (some .int) g A L tm_all) (M : tm_M) (w0 : Int32) (k : Int32 → Int32 → Option Int32) (r0 : Int32) (hk : ∀ (v1 : Int32) (v2 : Int32), k v1 v2 = some r0 → ∀ (H : Heap) (locs : List Loc) (ls : Array Slot), va_P g.1 vwCl (tm_ws g L M) H → va_S A s.heap H locs → lv_has ls 3 [(0, .int w0), (1, .int v1), (2, .int v2)] → W p l e { frames := 0, cells := 0, slots := 0, locals := 0 } s m args below meth c H locs 0 0 (MQ below (tm_QI g A L (r0, M)) args s 0 0 A) (F0 m 24 ls [])) : ∀ (n : Nat) (v1 : Int32) (v2 : Int32), f_X10_bits_L4 k w0 n v1 v2 = some r0 → ∀ (H : Heap) (locs : List Loc) (ls : Array Slot), va_P g.1 vwCl (tm_ws g L M) H → va_S A s.heap H locs → lv_has ls 3 [(0, .int w0), (1, .int v1), (2, .int v2)] → W p l e { frames := 0, cells := 0, slots := 0, locals := 0 } s m args below meth c H locs 0 0 (MQ below (tm_QI g A L (r0, M)) args s 0 0 A) (F0 m 4 ls []) := by
  obtain ⟨⟨hx, hb, hml, hown, hts⟩, hr, hlk, hK, hD, hG, hF⟩ := id C0
  intro n
  induction n with
  | zero =>
    intro v1 v2 h
    simp [f_X10_bits_L4] at h
  | succ n ih =>
    intro v1 v2 h H locs ls hP hS hl
    rw [f_X10_bits_L4] at h
    refine lv_iload_n hx hb dX10_bits_4 rfl (lv_at hl 2 rfl) ?_
    refine lv_bipush (v := 6) hx hb dX10_bits_5 (by decide) ?_
    refine lv_icmp_ge (tgt := 24) hx hb dX10_bits_7 (by decide) (fun c1 => ?_) (fun c1 => ?_)
    · rw [if_pos c1] at h
      exact hk v1 v2 h _ _ _ hP hS (lv_sub hl [0, 1, 2] rfl)
    · rw [if_neg c1] at h
      refine lv_iload_n hx hb dX10_bits_10 rfl (lv_at hl 1 rfl) ?_
      refine lv_iload_n hx hb dX10_bits_11 rfl (lv_at hl 0 rfl) ?_
      refine lv_iload_n hx hb dX10_bits_12 rfl (lv_at hl 2 rfl) ?_
      refine lv_ishr hx hb dX10_bits_13 ?_
      refine lv_iconst (v := 1) hx hb dX10_bits_14 (by decide) ?_
      refine lv_iand hx hb dX10_bits_15 ?_
      refine lv_iadd hx hb dX10_bits_16 ?_
      refine tm_nam h (fun x2 h => ?_)
      refine lv_istore_n (lv' := [(1, .int x2), (0, .int w0), (2, .int v2)]) hx hb dX10_bits_17 rfl hl (by decide) rfl (fun ls hl => ?_)
      refine lv_iinc (v := v2 + 1) (lv' := [(2, .int (v2 + 1)), (1, .int x2), (0, .int w0)]) hx hb dX10_bits_18 hl (k := 2) rfl rfl (by decide) rfl (fun ls hl => ?_)
      refine lv_goto (tgt := 4) hx hb dX10_bits_21 (by decide) ?_
      exact ih x2 (v2 + 1) h _ _ _ hP hS (lv_sub hl [2, 1, 0] rfl)
set_option maxHeartbeats 4000000 in
set_option maxRecDepth 100000 in
theorem c_X10_bits (l : Launch) (g : tm_G) (A : Nat → Prop) (L : List Nat) (hD : ∀ M, va_D A (tm_ws g L M)) (hF : ∀ o, tm_all o → o ∈ L) (M : tm_M) (p0 : Int32) (r0 : Int32) (h : f_X10_bits p0 = some r0) : Met l yX10_bits wsX10_bits { frames := 0, cells := 0, slots := 0, locals := 0 } (tm_PC g A L M [.int p0]) (tm_QI g A L (r0, M)) 0 0 A := by
  refine tm_start (cc := cX10_bits) (nL := 3) (ret := (some .int)) (F := tm_all) (plainFor_of_name (by decide)) rfl (Nat.le_of_ble_eq_true rfl) hD hF (fun p e s m args below meth c ls C0 hP hS hl => ?_)
  have hl : lv_has ls 3 [(0, .int p0)] := hl
  have C0 : tm_C p m c cX10_bits 3 s args wsX10_bits RX10 meth (some .int) g A L tm_all := C0
  obtain ⟨⟨hx, hb, hml, hown, hts⟩, hr, hlk, hK, hD, hG, hF⟩ := id C0
  unfold f_X10_bits at h
  refine lv_iconst (v := 0) hx hb dX10_bits_0 (by decide) ?_
  refine lv_istore_n (lv' := [(1, .int 0), (0, .int p0)]) hx hb dX10_bits_1 rfl hl (by decide) rfl (fun ls hl => ?_)
  refine lv_iconst (v := 0) hx hb dX10_bits_2 (by decide) ?_
  refine lv_istore_n (lv' := [(2, .int 0), (1, .int 0), (0, .int p0)]) hx hb dX10_bits_3 rfl hl (by decide) rfl (fun ls hl => ?_)
  refine w_X10_bits_L4 C0 M p0 _ r0 (fun v3 v4 h H locs ls hP hS hl => ?_) 1000 0 0 h _ _ _ hP hS (lv_sub hl [2, 1, 0] rfl)
  refine lv_iload_n hx hb dX10_bits_24 rfl (lv_at hl 1 rfl) ?_
  exact tm_iret C0 (by rw [Option.some.inj h]) hP hS dX10_bits_25
/-! X10_layDesk -/
theorem nX10_layDesk_X10 : ∀ w ∈ wsX100, w ∈ wsX10_layDesk := by decide +kernel
theorem kX10_layDesk_0 : Cond.fieldLink RX10 22 "QuarrelDeskModel" "row" "[I" ∈ wsX10_layDesk := by decide +kernel
theorem kX10_layDesk_1 : Cond.fieldLink RX10 38 "QuarrelDeskModel" "terms" "[I" ∈ wsX10_layDesk := by decide +kernel
theorem kX10_layDesk_2 : Cond.fieldLink RX10 59 "QuarrelDeskModel" "couples" "I" ∈ wsX10_layDesk := by decide +kernel
theorem kX10_layDesk_3 : Cond.fieldLink RX10 35 "QuarrelDeskModel" "strains" "[I" ∈ wsX10_layDesk := by decide +kernel
theorem kX10_layDesk_4 : Cond.fieldLink RX10 63 "QuarrelDeskModel" "undos" "I" ∈ wsX10_layDesk := by decide +kernel
theorem kX10_layDesk_5 : Cond.fieldLink RX10 66 "QuarrelDeskModel" "seenMany" "I" ∈ wsX10_layDesk := by decide +kernel
theorem kX10_layDesk_6 : Cond.fieldLink RX10 25 "QuarrelDeskModel" "isKept" "[Z" ∈ wsX10_layDesk := by decide +kernel
def f_X10_layDesk_L2 (k : Int32 → tm_M → Option tm_M) : Nat → Int32 → tm_M → Option tm_M
  | 0, _, _ => none
  | n + 1, v1, M =>
    if 56 ≤ v1 then
      k v1 M
    else
      if 44 ≤ v1 then
        (tm_wr M 132 672 v1 (-1)).bind fun M3 =>
        f_X10_layDesk_L2 k  n (v1 + 1) M3
      else
        (tm_wr M 132 672 v1 0).bind fun M5 =>
        f_X10_layDesk_L2 k  n (v1 + 1) M5
def f_X10_layDesk_L33 (k : Int32 → tm_M → Option tm_M) : Nat → Int32 → tm_M → Option tm_M
  | 0, _, _ => none
  | n + 1, v1, M =>
    if 6 ≤ v1 then
      k v1 M
    else
      (tm_rd M 137 6 v1).bind fun x10 =>
      (tm_wr M 132 672 (1 + v1) x10).bind fun M12 =>
      if (M12 127 7) ≤ v1 then
        (tm_wr M12 132 672 (7 + v1) 0).bind fun M15 =>
        f_X10_layDesk_L33 k  n (v1 + 1) M15
      else
        (tm_rd M12 136 6 v1).bind fun x17 =>
        (tm_wr M12 132 672 (7 + v1) x17).bind fun M19 =>
        f_X10_layDesk_L33 k  n (v1 + 1) M19
def f_X10_layDesk (M : tm_M) : Option tm_M :=
  f_X10_layDesk_L2 (fun v7 M8 =>
    f_X10_layDesk_L33 (fun v21 M22 =>
      (some (tm_st M22 127 5 0)).bind fun M23 =>
      (some (tm_st M23 127 15 0)).bind fun M25 =>
      (tm_wr M25 133 2 0 0).bind fun M27 =>
      (tm_wr M27 133 2 1 0).bind fun M29 =>
      some M29)  1000 0 M8)  1000 0 M
set_option maxHeartbeats 4000000 in
set_option maxRecDepth 100000 in
theorem w_X10_layDesk_L2 {p : Program} {l : Launch} {e : Env} {s : State} {m : MethodId} {args : Array Value} {below : List Frame} {meth : Method} {c : Code} {g : tm_G} {A : Nat → Prop} {L : List Nat} (C0 : tm_C p m c cX10_layDesk 2 s args wsX10_layDesk RX10 meth none g A L tm_all) (k : Int32 → tm_M → Option tm_M) (M0 : tm_M) (hk : ∀ (v1 : Int32) (M : tm_M), k v1 M = some M0 → ∀ (H : Heap) (locs : List Loc) (ls : Array Slot), va_P g.1 vwCl (tm_ws g L M) H → va_S A s.heap H locs → lv_has ls 2 [(0, .ref (g.2.2 + 127)), (1, .int v1)] → W p l e { frames := 0, cells := 0, slots := 0, locals := 0 } s m args below meth c H locs 0 0 (MQ below (tm_QV g A L M0) args s 0 0 A) (F0 m 31 ls [])) : ∀ (n : Nat) (v1 : Int32) (M : tm_M), f_X10_layDesk_L2 k  n v1 M = some M0 → ∀ (H : Heap) (locs : List Loc) (ls : Array Slot), va_P g.1 vwCl (tm_ws g L M) H → va_S A s.heap H locs → lv_has ls 2 [(0, .ref (g.2.2 + 127)), (1, .int v1)] → W p l e { frames := 0, cells := 0, slots := 0, locals := 0 } s m args below meth c H locs 0 0 (MQ below (tm_QV g A L M0) args s 0 0 A) (F0 m 2 ls []) := by
  obtain ⟨⟨hx, hb, hml, hown, hts⟩, hr, hlk, hK, hD, hG, hF⟩ := id C0
  intro n
  induction n with
  | zero =>
    intro v1 M h
    simp [f_X10_layDesk_L2] at h
  | succ n ih =>
    intro v1 M h H locs ls hP hS hl
    rw [f_X10_layDesk_L2] at h
    refine lv_iload_n hx hb dX10_layDesk_2 rfl (lv_at hl 1 rfl) ?_
    refine lv_bipush (v := 56) hx hb dX10_layDesk_3 (by decide) ?_
    refine lv_icmp_ge (tgt := 31) hx hb dX10_layDesk_5 (by decide) (fun c1 => ?_) (fun c1 => ?_)
    · rw [if_pos c1] at h
      exact hk v1 M h _ _ _ hP hS (lv_sub hl [0, 1] rfl)
    · rw [if_neg c1] at h
      refine lv_aload_n hx hb dX10_layDesk_8 rfl (lv_at hl 0 rfl) ?_
      refine tm_get (C := RX10) (T := TX10) (N := 23) (v := .ref (g.2.2 + 132)) hx hb hts nX10_layDesk_X10 hown hK hP (hF 127 (by decide)) (tm_mkX10 (by decide) _) rfl 4 (by decide) (hts _ kX10_layDesk_0) rfl dX10_layDesk_9 ?_
      refine lv_iload_n hx hb dX10_layDesk_12 rfl (lv_at hl 1 rfl) ?_
      refine lv_iload_n hx hb dX10_layDesk_13 rfl (lv_at hl 1 rfl) ?_
      refine lv_bipush (v := 44) hx hb dX10_layDesk_14 (by decide) ?_
      refine lv_icmp_ge (tgt := 23) hx hb dX10_layDesk_16 (by decide) (fun c2 => ?_) (fun c2 => ?_)
      · rw [if_pos c2] at h
        refine lv_iconst (v := (-1)) hx hb dX10_layDesk_23 (by decide) ?_
        obtain ⟨M3, e4, h⟩ := tm_bd_some h
        refine tm_iast hx hb hK hP hD hS (hF 132 (by decide)) (tm_mkI (n := 672) (by decide) (by decide)) e4 dX10_layDesk_24 (fun H locs hP hS => ?_)
        refine lv_iinc (v := v1 + 1) (lv' := [(1, .int (v1 + 1)), (0, .ref (g.2.2 + 127))]) hx hb dX10_layDesk_25 hl (k := 1) rfl rfl (by decide) rfl (fun ls hl => ?_)
        refine lv_goto (tgt := 2) hx hb dX10_layDesk_28 (by decide) ?_
        exact ih (v1 + 1) M3 h _ _ _ hP hS (lv_sub hl [1, 0] rfl)
      · rw [if_neg c2] at h
        refine lv_iconst (v := 0) hx hb dX10_layDesk_19 (by decide) ?_
        refine lv_goto (tgt := 24) hx hb dX10_layDesk_20 (by decide) ?_
        obtain ⟨M5, e6, h⟩ := tm_bd_some h
        refine tm_iast hx hb hK hP hD hS (hF 132 (by decide)) (tm_mkI (n := 672) (by decide) (by decide)) e6 dX10_layDesk_24 (fun H locs hP hS => ?_)
        refine lv_iinc (v := v1 + 1) (lv' := [(1, .int (v1 + 1)), (0, .ref (g.2.2 + 127))]) hx hb dX10_layDesk_25 hl (k := 1) rfl rfl (by decide) rfl (fun ls hl => ?_)
        refine lv_goto (tgt := 2) hx hb dX10_layDesk_28 (by decide) ?_
        exact ih (v1 + 1) M5 h _ _ _ hP hS (lv_sub hl [1, 0] rfl)
set_option maxHeartbeats 4000000 in
set_option maxRecDepth 100000 in
theorem w_X10_layDesk_L33 {p : Program} {l : Launch} {e : Env} {s : State} {m : MethodId} {args : Array Value} {below : List Frame} {meth : Method} {c : Code} {g : tm_G} {A : Nat → Prop} {L : List Nat} (C0 : tm_C p m c cX10_layDesk 2 s args wsX10_layDesk RX10 meth none g A L tm_all) (k : Int32 → tm_M → Option tm_M) (M0 : tm_M) (hk : ∀ (v1 : Int32) (M : tm_M), k v1 M = some M0 → ∀ (H : Heap) (locs : List Loc) (ls : Array Slot), va_P g.1 vwCl (tm_ws g L M) H → va_S A s.heap H locs → lv_has ls 2 [(0, .ref (g.2.2 + 127)), (1, .int v1)] → W p l e { frames := 0, cells := 0, slots := 0, locals := 0 } s m args below meth c H locs 0 0 (MQ below (tm_QV g A L M0) args s 0 0 A) (F0 m 86 ls [])) : ∀ (n : Nat) (v1 : Int32) (M : tm_M), f_X10_layDesk_L33 k  n v1 M = some M0 → ∀ (H : Heap) (locs : List Loc) (ls : Array Slot), va_P g.1 vwCl (tm_ws g L M) H → va_S A s.heap H locs → lv_has ls 2 [(0, .ref (g.2.2 + 127)), (1, .int v1)] → W p l e { frames := 0, cells := 0, slots := 0, locals := 0 } s m args below meth c H locs 0 0 (MQ below (tm_QV g A L M0) args s 0 0 A) (F0 m 33 ls []) := by
  obtain ⟨⟨hx, hb, hml, hown, hts⟩, hr, hlk, hK, hD, hG, hF⟩ := id C0
  intro n
  induction n with
  | zero =>
    intro v1 M h
    simp [f_X10_layDesk_L33] at h
  | succ n ih =>
    intro v1 M h H locs ls hP hS hl
    rw [f_X10_layDesk_L33] at h
    refine lv_iload_n hx hb dX10_layDesk_33 rfl (lv_at hl 1 rfl) ?_
    refine lv_bipush (v := 6) hx hb dX10_layDesk_34 (by decide) ?_
    refine lv_icmp_ge (tgt := 86) hx hb dX10_layDesk_36 (by decide) (fun c9 => ?_) (fun c9 => ?_)
    · rw [if_pos c9] at h
      exact hk v1 M h _ _ _ hP hS (lv_sub hl [0, 1] rfl)
    · rw [if_neg c9] at h
      refine lv_aload_n hx hb dX10_layDesk_39 rfl (lv_at hl 0 rfl) ?_
      refine tm_get (C := RX10) (T := TX10) (N := 23) (v := .ref (g.2.2 + 132)) hx hb hts nX10_layDesk_X10 hown hK hP (hF 127 (by decide)) (tm_mkX10 (by decide) _) rfl 4 (by decide) (hts _ kX10_layDesk_0) rfl dX10_layDesk_40 ?_
      refine lv_iconst (v := 1) hx hb dX10_layDesk_43 (by decide) ?_
      refine lv_iload_n hx hb dX10_layDesk_44 rfl (lv_at hl 1 rfl) ?_
      refine lv_iadd hx hb dX10_layDesk_45 ?_
      refine lv_aload_n hx hb dX10_layDesk_46 rfl (lv_at hl 0 rfl) ?_
      refine tm_get (C := RX10) (T := TX10) (N := 23) (v := .ref (g.2.2 + 137)) hx hb hts nX10_layDesk_X10 hown hK hP (hF 127 (by decide)) (tm_mkX10 (by decide) _) rfl 11 (by decide) (hts _ kX10_layDesk_1) rfl dX10_layDesk_47 ?_
      refine lv_iload_n hx hb dX10_layDesk_50 rfl (lv_at hl 1 rfl) ?_
      obtain ⟨x10, e11, h⟩ := tm_bd_some h
      refine tm_iald hx hb hK hP (hF 137 (by decide)) (tm_mkI (n := 6) (by decide) (by decide)) e11 dX10_layDesk_51 ?_
      obtain ⟨M12, e13, h⟩ := tm_bd_some h
      refine tm_iast hx hb hK hP hD hS (hF 132 (by decide)) (tm_mkI (n := 672) (by decide) (by decide)) e13 dX10_layDesk_52 (fun H locs hP hS => ?_)
      refine lv_aload_n hx hb dX10_layDesk_53 rfl (lv_at hl 0 rfl) ?_
      refine tm_get (C := RX10) (T := TX10) (N := 23) (v := .ref (g.2.2 + 132)) hx hb hts nX10_layDesk_X10 hown hK hP (hF 127 (by decide)) (tm_mkX10 (by decide) _) rfl 4 (by decide) (hts _ kX10_layDesk_0) rfl dX10_layDesk_54 ?_
      refine lv_bipush (v := 7) hx hb dX10_layDesk_57 (by decide) ?_
      refine lv_iload_n hx hb dX10_layDesk_59 rfl (lv_at hl 1 rfl) ?_
      refine lv_iadd hx hb dX10_layDesk_60 ?_
      refine lv_iload_n hx hb dX10_layDesk_61 rfl (lv_at hl 1 rfl) ?_
      refine lv_aload_n hx hb dX10_layDesk_62 rfl (lv_at hl 0 rfl) ?_
      refine tm_get (C := RX10) (T := TX10) (N := 23) (v := .int (M12 127 7)) hx hb hts nX10_layDesk_X10 hown hK hP (hF 127 (by decide)) (tm_mkX10 (by decide) _) rfl 7 (by decide) (hts _ kX10_layDesk_2) rfl dX10_layDesk_63 ?_
      refine lv_icmp_ge (tgt := 78) hx hb dX10_layDesk_66 (by decide) (fun c14 => ?_) (fun c14 => ?_)
      · rw [if_pos c14] at h
        refine lv_iconst (v := 0) hx hb dX10_layDesk_78 (by decide) ?_
        obtain ⟨M15, e16, h⟩ := tm_bd_some h
        refine tm_iast hx hb hK hP hD hS (hF 132 (by decide)) (tm_mkI (n := 672) (by decide) (by decide)) e16 dX10_layDesk_79 (fun H locs hP hS => ?_)
        refine lv_iinc (v := v1 + 1) (lv' := [(1, .int (v1 + 1)), (0, .ref (g.2.2 + 127))]) hx hb dX10_layDesk_80 hl (k := 1) rfl rfl (by decide) rfl (fun ls hl => ?_)
        refine lv_goto (tgt := 33) hx hb dX10_layDesk_83 (by decide) ?_
        exact ih (v1 + 1) M15 h _ _ _ hP hS (lv_sub hl [1, 0] rfl)
      · rw [if_neg c14] at h
        refine lv_aload_n hx hb dX10_layDesk_69 rfl (lv_at hl 0 rfl) ?_
        refine tm_get (C := RX10) (T := TX10) (N := 23) (v := .ref (g.2.2 + 136)) hx hb hts nX10_layDesk_X10 hown hK hP (hF 127 (by decide)) (tm_mkX10 (by decide) _) rfl 10 (by decide) (hts _ kX10_layDesk_3) rfl dX10_layDesk_70 ?_
        refine lv_iload_n hx hb dX10_layDesk_73 rfl (lv_at hl 1 rfl) ?_
        obtain ⟨x17, e18, h⟩ := tm_bd_some h
        refine tm_iald hx hb hK hP (hF 136 (by decide)) (tm_mkI (n := 6) (by decide) (by decide)) e18 dX10_layDesk_74 ?_
        refine lv_goto (tgt := 79) hx hb dX10_layDesk_75 (by decide) ?_
        obtain ⟨M19, e20, h⟩ := tm_bd_some h
        refine tm_iast hx hb hK hP hD hS (hF 132 (by decide)) (tm_mkI (n := 672) (by decide) (by decide)) e20 dX10_layDesk_79 (fun H locs hP hS => ?_)
        refine lv_iinc (v := v1 + 1) (lv' := [(1, .int (v1 + 1)), (0, .ref (g.2.2 + 127))]) hx hb dX10_layDesk_80 hl (k := 1) rfl rfl (by decide) rfl (fun ls hl => ?_)
        refine lv_goto (tgt := 33) hx hb dX10_layDesk_83 (by decide) ?_
        exact ih (v1 + 1) M19 h _ _ _ hP hS (lv_sub hl [1, 0] rfl)
set_option maxHeartbeats 4000000 in
set_option maxRecDepth 100000 in
theorem c_X10_layDesk (l : Launch) (g : tm_G) (A : Nat → Prop) (L : List Nat) (hD : ∀ M, va_D A (tm_ws g L M)) (hF : ∀ o, tm_all o → o ∈ L) (M : tm_M) (M0 : tm_M) (h : f_X10_layDesk M = some M0) : Met l yX10_layDesk wsX10_layDesk { frames := 0, cells := 0, slots := 0, locals := 0 } (tm_PC g A L M [.ref (g.2.2 + 127)]) (tm_QV g A L M0) 0 0 A := by
  refine tm_start (cc := cX10_layDesk) (nL := 2) (ret := none) (F := tm_all) (plainFor_of_name (by decide)) rfl (Nat.le_of_ble_eq_true rfl) hD hF (fun p e s m args below meth c ls C0 hP hS hl => ?_)
  have hl : lv_has ls 2 [(0, .ref (g.2.2 + 127))] := hl
  have C0 : tm_C p m c cX10_layDesk 2 s args wsX10_layDesk RX10 meth none g A L tm_all := C0
  obtain ⟨⟨hx, hb, hml, hown, hts⟩, hr, hlk, hK, hD, hG, hF⟩ := id C0
  unfold f_X10_layDesk at h
  refine lv_iconst (v := 0) hx hb dX10_layDesk_0 (by decide) ?_
  refine lv_istore_n (lv' := [(1, .int 0), (0, .ref (g.2.2 + 127))]) hx hb dX10_layDesk_1 rfl hl (by decide) rfl (fun ls hl => ?_)
  refine w_X10_layDesk_L2 C0  _ M0 (fun v7 M8 h H locs ls hP hS hl => ?_) 1000 0 M h _ _ _ hP hS (lv_sub hl [1, 0] rfl)
  refine lv_iconst (v := 0) hx hb dX10_layDesk_31 (by decide) ?_
  refine lv_istore_n (lv' := [(1, .int 0), (0, .ref (g.2.2 + 127))]) hx hb dX10_layDesk_32 rfl hl (by decide) rfl (fun ls hl => ?_)
  refine w_X10_layDesk_L33 C0  _ M0 (fun v21 M22 h H locs ls hP hS hl => ?_) 1000 0 M8 h _ _ _ hP hS (lv_sub hl [1, 0] rfl)
  refine lv_aload_n hx hb dX10_layDesk_86 rfl (lv_at hl 0 rfl) ?_
  refine lv_iconst (v := 0) hx hb dX10_layDesk_87 (by decide) ?_
  obtain ⟨M23, e24, h⟩ := tm_bd_some h
  refine tm_put (C := RX10) (T := TX10) (N := 23) (ty := .int) (x := 0) hx hb hts nX10_layDesk_X10 tyX10 tyX10_ok nmX10 hown hK hP hD hS (hF 127 (by decide)) (tm_mkX10 (by decide)) rfl 5 (by decide) (hts _ kX10_layDesk_4) rfl (by decide +kernel) rfl rfl (Nat.le_of_ble_eq_true rfl) rfl (Option.some.inj e24) dX10_layDesk_88 (fun H locs hP hS => ?_)
  refine lv_aload_n hx hb dX10_layDesk_91 rfl (lv_at hl 0 rfl) ?_
  refine lv_iconst (v := 0) hx hb dX10_layDesk_92 (by decide) ?_
  obtain ⟨M25, e26, h⟩ := tm_bd_some h
  refine tm_put (C := RX10) (T := TX10) (N := 23) (ty := .int) (x := 0) hx hb hts nX10_layDesk_X10 tyX10 tyX10_ok nmX10 hown hK hP hD hS (hF 127 (by decide)) (tm_mkX10 (by decide)) rfl 15 (by decide) (hts _ kX10_layDesk_5) rfl (by decide +kernel) rfl rfl (Nat.le_of_ble_eq_true rfl) rfl (Option.some.inj e26) dX10_layDesk_93 (fun H locs hP hS => ?_)
  refine lv_aload_n hx hb dX10_layDesk_96 rfl (lv_at hl 0 rfl) ?_
  refine tm_get (C := RX10) (T := TX10) (N := 23) (v := .ref (g.2.2 + 133)) hx hb hts nX10_layDesk_X10 hown hK hP (hF 127 (by decide)) (tm_mkX10 (by decide) _) rfl 6 (by decide) (hts _ kX10_layDesk_6) rfl dX10_layDesk_97 ?_
  refine lv_iconst (v := 0) hx hb dX10_layDesk_100 (by decide) ?_
  refine lv_iconst (v := 0) hx hb dX10_layDesk_101 (by decide) ?_
  obtain ⟨M27, e28, h⟩ := tm_bd_some h
  refine tm_zast hx hb hK hP hD hS (hF 133 (by decide)) (tm_mkZ (n := 2) (by decide) (by decide)) (by unfold tm_isB; decide) e28 dX10_layDesk_102 (fun H locs hP hS => ?_)
  refine lv_aload_n hx hb dX10_layDesk_103 rfl (lv_at hl 0 rfl) ?_
  refine tm_get (C := RX10) (T := TX10) (N := 23) (v := .ref (g.2.2 + 133)) hx hb hts nX10_layDesk_X10 hown hK hP (hF 127 (by decide)) (tm_mkX10 (by decide) _) rfl 6 (by decide) (hts _ kX10_layDesk_6) rfl dX10_layDesk_104 ?_
  refine lv_iconst (v := 1) hx hb dX10_layDesk_107 (by decide) ?_
  refine lv_iconst (v := 0) hx hb dX10_layDesk_108 (by decide) ?_
  obtain ⟨M29, e30, h⟩ := tm_bd_some h
  refine tm_zast hx hb hK hP hD hS (hF 133 (by decide)) (tm_mkZ (n := 2) (by decide) (by decide)) (by unfold tm_isB; decide) e30 dX10_layDesk_109 (fun H locs hP hS => ?_)
  exact tm_vret C0 (Option.some.inj h) hP hS dX10_layDesk_110
/-! X10_write -/
theorem nX10_write_X10 : ∀ w ∈ wsX100, w ∈ wsX10_write := by decide +kernel
theorem kX10_write_0 : Cond.fieldLink RX10 73 "QuarrelDeskModel" "length" "I" ∈ wsX10_write := by decide +kernel
theorem kX10_write_1 : Cond.fieldLink RX10 41 "QuarrelDeskModel" "text" "[I" ∈ wsX10_write := by decide +kernel
def f_X10_write (M : tm_M) (p1 : Int32) : Option (Int32 × tm_M) :=
  (f_X10_in p1 0 255).bind fun r1 =>
  if r1 = 0 then
    some ((-3), M)
  else
    if (M 127 13) = 160 then
      some ((-5), M)
    else
      (tm_wr M 138 160 (M 127 13) p1).bind fun M5 =>
      (some (tm_st M5 127 13 ((M5 127 13) + 1))).bind fun M7 =>
      some (M7 127 13, M7)
set_option maxHeartbeats 4000000 in
set_option maxRecDepth 100000 in
theorem c_X10_write (l : Launch) (g : tm_G) (A : Nat → Prop) (L : List Nat) (hD : ∀ M, va_D A (tm_ws g L M)) (hF : ∀ o, tm_all o → o ∈ L) (M : tm_M) (p1 : Int32) (R0 : Int32 × tm_M) (h : f_X10_write M p1 = some R0) : Met l yX10_write wsX10_write { frames := 1, cells := 0, slots := 0, locals := 22 } (tm_PC g A L M [.ref (g.2.2 + 127), .int p1]) (tm_QI g A L R0) 0 0 A := by
  refine tm_start (cc := cX10_write) (nL := 2) (ret := (some .int)) (F := tm_all) (plainFor_of_name (by decide)) rfl (Nat.le_of_ble_eq_true rfl) hD hF (fun p e s m args below meth c ls C0 hP hS hl => ?_)
  have hl : lv_has ls 2 [(0, .ref (g.2.2 + 127)), (1, .int p1)] := hl
  have C0 : tm_C p m c cX10_write 2 s args wsX10_write RX10 meth (some .int) g A L tm_all := C0
  obtain ⟨⟨hx, hb, hml, hown, hts⟩, hr, hlk, hK, hD, hG, hF⟩ := id C0
  unfold f_X10_write at h
  refine lv_iload_n hx hb dX10_write_0 rfl (lv_at hl 1 rfl) ?_
  refine lv_iconst (v := 0) hx hb dX10_write_1 (by decide) ?_
  refine lv_sipush (v := 255) hx hb dX10_write_2 (by decide) ?_
  obtain ⟨r1, e2, h⟩ := tm_bd_some h
  refine tm_backI (r0 := r1) (M0 := M) (fun _ q => q) (tm_callS (As := [.int p1, .int 0, .int 255]) (rest := []) ⟨hx, hb, hml, hown, hts⟩ hK hG hP hS (c_X10_in l g A L hD hF M p1 0 255 r1 e2) (va_cwS 3 hts gX10_write_X10_in rfl rfl rfl (by decide +kernel) ⟨Nat.le_of_ble_eq_true rfl, Nat.le_of_ble_eq_true rfl⟩) rfl hl.1 (lv_room (Nat.le_of_ble_eq_true rfl)) dX10_write_5 ⟨Nat.zero_le _, Nat.zero_le _⟩) hS (fun H locs hP hS => ?_)
  refine lv_if_ne (tgt := 14) hx hb dX10_write_8 (by decide) (fun c3 => ?_) (fun c3 => ?_)
  · rw [if_neg c3] at h
    refine lv_aload_n hx hb dX10_write_14 rfl (lv_at hl 0 rfl) ?_
    refine tm_get (C := RX10) (T := TX10) (N := 23) (v := .int (M 127 13)) hx hb hts nX10_write_X10 hown hK hP (hF 127 (by decide)) (tm_mkX10 (by decide) _) rfl 13 (by decide) (hts _ kX10_write_0) rfl dX10_write_15 ?_
    refine lv_sipush (v := 160) hx hb dX10_write_18 (by decide) ?_
    refine lv_icmp_ne (tgt := 27) hx hb dX10_write_21 (by decide) (fun c4 => ?_) (fun c4 => ?_)
    · rw [if_neg c4] at h
      refine lv_aload_n hx hb dX10_write_27 rfl (lv_at hl 0 rfl) ?_
      refine tm_get (C := RX10) (T := TX10) (N := 23) (v := .ref (g.2.2 + 138)) hx hb hts nX10_write_X10 hown hK hP (hF 127 (by decide)) (tm_mkX10 (by decide) _) rfl 12 (by decide) (hts _ kX10_write_1) rfl dX10_write_28 ?_
      refine lv_aload_n hx hb dX10_write_31 rfl (lv_at hl 0 rfl) ?_
      refine tm_get (C := RX10) (T := TX10) (N := 23) (v := .int (M 127 13)) hx hb hts nX10_write_X10 hown hK hP (hF 127 (by decide)) (tm_mkX10 (by decide) _) rfl 13 (by decide) (hts _ kX10_write_0) rfl dX10_write_32 ?_
      refine lv_iload_n hx hb dX10_write_35 rfl (lv_at hl 1 rfl) ?_
      obtain ⟨M5, e6, h⟩ := tm_bd_some h
      refine tm_iast hx hb hK hP hD hS (hF 138 (by decide)) (tm_mkI (n := 160) (by decide) (by decide)) e6 dX10_write_36 (fun H locs hP hS => ?_)
      refine lv_aload_n hx hb dX10_write_37 rfl (lv_at hl 0 rfl) ?_
      refine lv_dup hx hb dX10_write_38 rfl ?_
      refine tm_get (C := RX10) (T := TX10) (N := 23) (v := .int (M5 127 13)) hx hb hts nX10_write_X10 hown hK hP (hF 127 (by decide)) (tm_mkX10 (by decide) _) rfl 13 (by decide) (hts _ kX10_write_0) rfl dX10_write_39 ?_
      refine lv_iconst (v := 1) hx hb dX10_write_42 (by decide) ?_
      refine lv_iadd hx hb dX10_write_43 ?_
      obtain ⟨M7, e8, h⟩ := tm_bd_some h
      refine tm_put (C := RX10) (T := TX10) (N := 23) (ty := .int) (x := (M5 127 13) + 1) hx hb hts nX10_write_X10 tyX10 tyX10_ok nmX10 hown hK hP hD hS (hF 127 (by decide)) (tm_mkX10 (by decide)) rfl 13 (by decide) (hts _ kX10_write_0) rfl (by decide +kernel) rfl rfl (Nat.le_of_ble_eq_true rfl) rfl (Option.some.inj e8) dX10_write_44 (fun H locs hP hS => ?_)
      refine lv_aload_n hx hb dX10_write_47 rfl (lv_at hl 0 rfl) ?_
      refine tm_get (C := RX10) (T := TX10) (N := 23) (v := .int (M7 127 13)) hx hb hts nX10_write_X10 hown hK hP (hF 127 (by decide)) (tm_mkX10 (by decide) _) rfl 13 (by decide) (hts _ kX10_write_0) rfl dX10_write_48 ?_
      exact tm_iret C0 (Option.some.inj h) hP hS dX10_write_51
    · rw [if_pos c4] at h
      refine lv_bipush (v := (-5)) hx hb dX10_write_24 (by decide) ?_
      exact tm_iret C0 (Option.some.inj h) hP hS dX10_write_26
  · rw [if_pos c3] at h
    refine lv_bipush (v := (-3)) hx hb dX10_write_11 (by decide) ?_
    exact tm_iret C0 (Option.some.inj h) hP hS dX10_write_13
/-! X10_erase -/
theorem nX10_erase_X10 : ∀ w ∈ wsX100, w ∈ wsX10_erase := by decide +kernel
theorem kX10_erase_0 : Cond.fieldLink RX10 73 "QuarrelDeskModel" "length" "I" ∈ wsX10_erase := by decide +kernel
def f_X10_erase (M : tm_M) : Option (Int32 × tm_M) :=
  (some (M 127 13)).bind fun x1 =>
  (some (tm_st M 127 13 0)).bind fun M2 =>
  some (x1, M2)
set_option maxHeartbeats 4000000 in
set_option maxRecDepth 100000 in
theorem c_X10_erase (l : Launch) (g : tm_G) (A : Nat → Prop) (L : List Nat) (hD : ∀ M, va_D A (tm_ws g L M)) (hF : ∀ o, tm_all o → o ∈ L) (M : tm_M) (R0 : Int32 × tm_M) (h : f_X10_erase M = some R0) : Met l yX10_erase wsX10_erase { frames := 0, cells := 0, slots := 0, locals := 0 } (tm_PC g A L M [.ref (g.2.2 + 127)]) (tm_QI g A L R0) 0 0 A := by
  refine tm_start (cc := cX10_erase) (nL := 2) (ret := (some .int)) (F := tm_all) (plainFor_of_name (by decide)) rfl (Nat.le_of_ble_eq_true rfl) hD hF (fun p e s m args below meth c ls C0 hP hS hl => ?_)
  have hl : lv_has ls 2 [(0, .ref (g.2.2 + 127))] := hl
  have C0 : tm_C p m c cX10_erase 2 s args wsX10_erase RX10 meth (some .int) g A L tm_all := C0
  obtain ⟨⟨hx, hb, hml, hown, hts⟩, hr, hlk, hK, hD, hG, hF⟩ := id C0
  unfold f_X10_erase at h
  refine lv_aload_n hx hb dX10_erase_0 rfl (lv_at hl 0 rfl) ?_
  refine tm_get (C := RX10) (T := TX10) (N := 23) (v := .int (M 127 13)) hx hb hts nX10_erase_X10 hown hK hP (hF 127 (by decide)) (tm_mkX10 (by decide) _) rfl 13 (by decide) (hts _ kX10_erase_0) rfl dX10_erase_1 ?_
  refine tm_nam h (fun x1 h => ?_)
  refine lv_istore_n (lv' := [(1, .int x1), (0, .ref (g.2.2 + 127))]) hx hb dX10_erase_4 rfl hl (by decide) rfl (fun ls hl => ?_)
  refine lv_aload_n hx hb dX10_erase_5 rfl (lv_at hl 1 rfl) ?_
  refine lv_iconst (v := 0) hx hb dX10_erase_6 (by decide) ?_
  obtain ⟨M2, e3, h⟩ := tm_bd_some h
  refine tm_put (C := RX10) (T := TX10) (N := 23) (ty := .int) (x := 0) hx hb hts nX10_erase_X10 tyX10 tyX10_ok nmX10 hown hK hP hD hS (hF 127 (by decide)) (tm_mkX10 (by decide)) rfl 13 (by decide) (hts _ kX10_erase_0) rfl (by decide +kernel) rfl rfl (Nat.le_of_ble_eq_true rfl) rfl (Option.some.inj e3) dX10_erase_7 (fun H locs hP hS => ?_)
  refine lv_iload_n hx hb dX10_erase_10 rfl (lv_at hl 0 rfl) ?_
  exact tm_iret C0 (Option.some.inj h) hP hS dX10_erase_11
/-! X10_isSmall -/
theorem nX10_isSmall_X10 : ∀ w ∈ wsX100, w ∈ wsX10_isSmall := by decide +kernel
theorem kX10_isSmall_0 : Cond.fieldLink RX10 73 "QuarrelDeskModel" "length" "I" ∈ wsX10_isSmall := by decide +kernel
theorem kX10_isSmall_1 : Cond.fieldLink RX10 41 "QuarrelDeskModel" "text" "[I" ∈ wsX10_isSmall := by decide +kernel
def f_X10_isSmall (M : tm_M) (p1 : Int32) : Option Int32 :=
  if (M 127 13) ≤ p1 then
    some 0
  else
    (tm_rd M 138 160 p1).bind fun x2 =>
    (f_X10_in x2 97 122).bind fun r4 =>
    if r4 = 0 then
      some 0
    else
      some 1
set_option maxHeartbeats 4000000 in
set_option maxRecDepth 100000 in
theorem c_X10_isSmall (l : Launch) (g : tm_G) (A : Nat → Prop) (L : List Nat) (hD : ∀ M, va_D A (tm_ws g L M)) (hF : ∀ o, tm_all o → o ∈ L) (M : tm_M) (p1 : Int32) (r0 : Int32) (h : f_X10_isSmall M p1 = some r0) : Met l yX10_isSmall wsX10_isSmall { frames := 1, cells := 0, slots := 0, locals := 22 } (tm_PC g A L M [.ref (g.2.2 + 127), .int p1]) (tm_QI g A L (r0, M)) 0 0 A := by
  refine tm_start (cc := cX10_isSmall) (nL := 2) (ret := (some .boolean)) (F := tm_all) (plainFor_of_name (by decide)) rfl (Nat.le_of_ble_eq_true rfl) hD hF (fun p e s m args below meth c ls C0 hP hS hl => ?_)
  have hl : lv_has ls 2 [(0, .ref (g.2.2 + 127)), (1, .int p1)] := hl
  have C0 : tm_C p m c cX10_isSmall 2 s args wsX10_isSmall RX10 meth (some .boolean) g A L tm_all := C0
  obtain ⟨⟨hx, hb, hml, hown, hts⟩, hr, hlk, hK, hD, hG, hF⟩ := id C0
  unfold f_X10_isSmall at h
  refine lv_iload_n hx hb dX10_isSmall_0 rfl (lv_at hl 1 rfl) ?_
  refine lv_aload_n hx hb dX10_isSmall_1 rfl (lv_at hl 0 rfl) ?_
  refine tm_get (C := RX10) (T := TX10) (N := 23) (v := .int (M 127 13)) hx hb hts nX10_isSmall_X10 hown hK hP (hF 127 (by decide)) (tm_mkX10 (by decide) _) rfl 13 (by decide) (hts _ kX10_isSmall_0) rfl dX10_isSmall_2 ?_
  refine lv_icmp_ge (tgt := 28) hx hb dX10_isSmall_5 (by decide) (fun c1 => ?_) (fun c1 => ?_)
  · rw [if_pos c1] at h
    refine lv_iconst (v := 0) hx hb dX10_isSmall_28 (by decide) ?_
    exact tm_zret C0 (by unfold tm_isB; decide) (by rw [Option.some.inj h]) hP hS dX10_isSmall_29
  · rw [if_neg c1] at h
    refine lv_aload_n hx hb dX10_isSmall_8 rfl (lv_at hl 0 rfl) ?_
    refine tm_get (C := RX10) (T := TX10) (N := 23) (v := .ref (g.2.2 + 138)) hx hb hts nX10_isSmall_X10 hown hK hP (hF 127 (by decide)) (tm_mkX10 (by decide) _) rfl 12 (by decide) (hts _ kX10_isSmall_1) rfl dX10_isSmall_9 ?_
    refine lv_iload_n hx hb dX10_isSmall_12 rfl (lv_at hl 1 rfl) ?_
    obtain ⟨x2, e3, h⟩ := tm_bd_some h
    refine tm_iald hx hb hK hP (hF 138 (by decide)) (tm_mkI (n := 160) (by decide) (by decide)) e3 dX10_isSmall_13 ?_
    refine lv_bipush (v := 97) hx hb dX10_isSmall_14 (by decide) ?_
    refine lv_bipush (v := 122) hx hb dX10_isSmall_16 (by decide) ?_
    obtain ⟨r4, e5, h⟩ := tm_bd_some h
    refine tm_backI (r0 := r4) (M0 := M) (fun _ q => q) (tm_callS (As := [.int x2, .int 97, .int 122]) (rest := []) ⟨hx, hb, hml, hown, hts⟩ hK hG hP hS (c_X10_in l g A L hD hF M x2 97 122 r4 e5) (va_cwS 3 hts gX10_isSmall_X10_in rfl rfl rfl (by decide +kernel) ⟨Nat.le_of_ble_eq_true rfl, Nat.le_of_ble_eq_true rfl⟩) rfl hl.1 (lv_room (Nat.le_of_ble_eq_true rfl)) dX10_isSmall_18 ⟨Nat.zero_le _, Nat.zero_le _⟩) hS (fun H locs hP hS => ?_)
    refine lv_if_eq (tgt := 28) hx hb dX10_isSmall_21 (by decide) (fun c6 => ?_) (fun c6 => ?_)
    · rw [if_pos c6] at h
      refine lv_iconst (v := 0) hx hb dX10_isSmall_28 (by decide) ?_
      exact tm_zret C0 (by unfold tm_isB; decide) (by rw [Option.some.inj h]) hP hS dX10_isSmall_29
    · rw [if_neg c6] at h
      refine lv_iconst (v := 1) hx hb dX10_isSmall_24 (by decide) ?_
      refine lv_goto (tgt := 29) hx hb dX10_isSmall_25 (by decide) ?_
      exact tm_zret C0 (by unfold tm_isB; decide) (by rw [Option.some.inj h]) hP hS dX10_isSmall_29
/-! X10_isDigit -/
theorem nX10_isDigit_X10 : ∀ w ∈ wsX100, w ∈ wsX10_isDigit := by decide +kernel
theorem kX10_isDigit_0 : Cond.fieldLink RX10 73 "QuarrelDeskModel" "length" "I" ∈ wsX10_isDigit := by decide +kernel
theorem kX10_isDigit_1 : Cond.fieldLink RX10 41 "QuarrelDeskModel" "text" "[I" ∈ wsX10_isDigit := by decide +kernel
def f_X10_isDigit (M : tm_M) (p1 : Int32) : Option Int32 :=
  if (M 127 13) ≤ p1 then
    some 0
  else
    (tm_rd M 138 160 p1).bind fun x2 =>
    (f_X10_in x2 48 57).bind fun r4 =>
    if r4 = 0 then
      some 0
    else
      some 1
set_option maxHeartbeats 4000000 in
set_option maxRecDepth 100000 in
theorem c_X10_isDigit (l : Launch) (g : tm_G) (A : Nat → Prop) (L : List Nat) (hD : ∀ M, va_D A (tm_ws g L M)) (hF : ∀ o, tm_all o → o ∈ L) (M : tm_M) (p1 : Int32) (r0 : Int32) (h : f_X10_isDigit M p1 = some r0) : Met l yX10_isDigit wsX10_isDigit { frames := 1, cells := 0, slots := 0, locals := 22 } (tm_PC g A L M [.ref (g.2.2 + 127), .int p1]) (tm_QI g A L (r0, M)) 0 0 A := by
  refine tm_start (cc := cX10_isDigit) (nL := 2) (ret := (some .boolean)) (F := tm_all) (plainFor_of_name (by decide)) rfl (Nat.le_of_ble_eq_true rfl) hD hF (fun p e s m args below meth c ls C0 hP hS hl => ?_)
  have hl : lv_has ls 2 [(0, .ref (g.2.2 + 127)), (1, .int p1)] := hl
  have C0 : tm_C p m c cX10_isDigit 2 s args wsX10_isDigit RX10 meth (some .boolean) g A L tm_all := C0
  obtain ⟨⟨hx, hb, hml, hown, hts⟩, hr, hlk, hK, hD, hG, hF⟩ := id C0
  unfold f_X10_isDigit at h
  refine lv_iload_n hx hb dX10_isDigit_0 rfl (lv_at hl 1 rfl) ?_
  refine lv_aload_n hx hb dX10_isDigit_1 rfl (lv_at hl 0 rfl) ?_
  refine tm_get (C := RX10) (T := TX10) (N := 23) (v := .int (M 127 13)) hx hb hts nX10_isDigit_X10 hown hK hP (hF 127 (by decide)) (tm_mkX10 (by decide) _) rfl 13 (by decide) (hts _ kX10_isDigit_0) rfl dX10_isDigit_2 ?_
  refine lv_icmp_ge (tgt := 28) hx hb dX10_isDigit_5 (by decide) (fun c1 => ?_) (fun c1 => ?_)
  · rw [if_pos c1] at h
    refine lv_iconst (v := 0) hx hb dX10_isDigit_28 (by decide) ?_
    exact tm_zret C0 (by unfold tm_isB; decide) (by rw [Option.some.inj h]) hP hS dX10_isDigit_29
  · rw [if_neg c1] at h
    refine lv_aload_n hx hb dX10_isDigit_8 rfl (lv_at hl 0 rfl) ?_
    refine tm_get (C := RX10) (T := TX10) (N := 23) (v := .ref (g.2.2 + 138)) hx hb hts nX10_isDigit_X10 hown hK hP (hF 127 (by decide)) (tm_mkX10 (by decide) _) rfl 12 (by decide) (hts _ kX10_isDigit_1) rfl dX10_isDigit_9 ?_
    refine lv_iload_n hx hb dX10_isDigit_12 rfl (lv_at hl 1 rfl) ?_
    obtain ⟨x2, e3, h⟩ := tm_bd_some h
    refine tm_iald hx hb hK hP (hF 138 (by decide)) (tm_mkI (n := 160) (by decide) (by decide)) e3 dX10_isDigit_13 ?_
    refine lv_bipush (v := 48) hx hb dX10_isDigit_14 (by decide) ?_
    refine lv_bipush (v := 57) hx hb dX10_isDigit_16 (by decide) ?_
    obtain ⟨r4, e5, h⟩ := tm_bd_some h
    refine tm_backI (r0 := r4) (M0 := M) (fun _ q => q) (tm_callS (As := [.int x2, .int 48, .int 57]) (rest := []) ⟨hx, hb, hml, hown, hts⟩ hK hG hP hS (c_X10_in l g A L hD hF M x2 48 57 r4 e5) (va_cwS 3 hts gX10_isDigit_X10_in rfl rfl rfl (by decide +kernel) ⟨Nat.le_of_ble_eq_true rfl, Nat.le_of_ble_eq_true rfl⟩) rfl hl.1 (lv_room (Nat.le_of_ble_eq_true rfl)) dX10_isDigit_18 ⟨Nat.zero_le _, Nat.zero_le _⟩) hS (fun H locs hP hS => ?_)
    refine lv_if_eq (tgt := 28) hx hb dX10_isDigit_21 (by decide) (fun c6 => ?_) (fun c6 => ?_)
    · rw [if_pos c6] at h
      refine lv_iconst (v := 0) hx hb dX10_isDigit_28 (by decide) ?_
      exact tm_zret C0 (by unfold tm_isB; decide) (by rw [Option.some.inj h]) hP hS dX10_isDigit_29
    · rw [if_neg c6] at h
      refine lv_iconst (v := 1) hx hb dX10_isDigit_24 (by decide) ?_
      refine lv_goto (tgt := 29) hx hb dX10_isDigit_25 (by decide) ?_
      exact tm_zret C0 (by unfold tm_isB; decide) (by rw [Option.some.inj h]) hP hS dX10_isDigit_29
/-! X10_next -/
theorem nX10_next_X10 : ∀ w ∈ wsX100, w ∈ wsX10_next := by decide +kernel
theorem kX10_next_0 : Cond.fieldLink RX10 76 "QuarrelDeskModel" "behind" "I" ∈ wsX10_next := by decide +kernel
theorem kX10_next_1 : Cond.fieldLink RX10 79 "QuarrelDeskModel" "at" "I" ∈ wsX10_next := by decide +kernel
theorem kX10_next_2 : Cond.fieldLink RX10 73 "QuarrelDeskModel" "length" "I" ∈ wsX10_next := by decide +kernel
theorem kX10_next_3 : Cond.fieldLink RX10 41 "QuarrelDeskModel" "text" "[I" ∈ wsX10_next := by decide +kernel
def f_X10_next_L8 (k : tm_M → Option tm_M) : Nat → tm_M → Option tm_M
  | 0, _ => none
  | n + 1, M =>
    if (M 127 13) ≤ (M 127 16) then
      k M
    else
      (tm_rd M 138 160 (M 127 16)).bind fun x4 =>
      if x4 = 32 then
        (some (tm_st M 127 16 ((M 127 16) + 1))).bind fun M7 =>
        f_X10_next_L8 k  n M7
      else
        k M
def f_X10_next_L74 (k : tm_M → Option tm_M) : Nat → tm_M → Option tm_M
  | 0, _ => none
  | n + 1, M =>
    (f_X10_isSmall M (M 127 16)).bind fun r13 =>
    if r13 = 0 then
      (f_X10_isDigit M (M 127 16)).bind fun r16 =>
      if r16 = 0 then
        k M
      else
        (f_X10_isDigit M (M 127 17)).bind fun r19 =>
        if r19 = 0 then
          k M
        else
          (some (tm_st M 127 17 ((M 127 17) + 1))).bind fun M22 =>
          f_X10_next_L74 k  n M22
    else
      (f_X10_isSmall M (M 127 17)).bind fun r24 =>
      if r24 = 0 then
        (f_X10_isDigit M (M 127 16)).bind fun r29 =>
        if r29 = 0 then
          k M
        else
          (f_X10_isDigit M (M 127 17)).bind fun r32 =>
          if r32 = 0 then
            k M
          else
            (some (tm_st M 127 17 ((M 127 17) + 1))).bind fun M35 =>
            f_X10_next_L74 k  n M35
      else
        (some (tm_st M 127 17 ((M 127 17) + 1))).bind fun M27 =>
        f_X10_next_L74 k  n M27
def f_X10_next (M : tm_M) : Option tm_M :=
  (some (tm_st M 127 16 (M 127 17))).bind fun M1 =>
  f_X10_next_L8 (fun M9 =>
    if (M9 127 13) ≤ (M9 127 16) then
      (some (tm_st M9 127 17 (M9 127 16))).bind fun M11 =>
      f_X10_next_L74 (fun M37 =>
        some M37)  1000 M11
    else
      (some (tm_st M9 127 17 ((M9 127 16) + 1))).bind fun M38 =>
      f_X10_next_L74 (fun M40 =>
        some M40)  1000 M38)  1000 M1
set_option maxHeartbeats 4000000 in
set_option maxRecDepth 100000 in
theorem w_X10_next_L8 {p : Program} {l : Launch} {e : Env} {s : State} {m : MethodId} {args : Array Value} {below : List Frame} {meth : Method} {c : Code} {g : tm_G} {A : Nat → Prop} {L : List Nat} (C0 : tm_C p m c cX10_next 1 s args wsX10_next RX10 meth none g A L tm_all) (k : tm_M → Option tm_M) (M0 : tm_M) (hk : ∀ (M : tm_M), k M = some M0 → ∀ (H : Heap) (locs : List Loc) (ls : Array Slot), va_P g.1 vwCl (tm_ws g L M) H → va_S A s.heap H locs → lv_has ls 1 [(0, .ref (g.2.2 + 127))] → W p l e { frames := 2, cells := 0, slots := 0, locals := 43 } s m args below meth c H locs 0 0 (MQ below (tm_QV g A L M0) args s 0 0 A) (F0 m 46 ls [])) : ∀ (n : Nat) (M : tm_M), f_X10_next_L8 k  n M = some M0 → ∀ (H : Heap) (locs : List Loc) (ls : Array Slot), va_P g.1 vwCl (tm_ws g L M) H → va_S A s.heap H locs → lv_has ls 1 [(0, .ref (g.2.2 + 127))] → W p l e { frames := 2, cells := 0, slots := 0, locals := 43 } s m args below meth c H locs 0 0 (MQ below (tm_QV g A L M0) args s 0 0 A) (F0 m 8 ls []) := by
  obtain ⟨⟨hx, hb, hml, hown, hts⟩, hr, hlk, hK, hD, hG, hF⟩ := id C0
  intro n
  induction n with
  | zero =>
    intro M h
    simp [f_X10_next_L8] at h
  | succ n ih =>
    intro M h H locs ls hP hS hl
    rw [f_X10_next_L8] at h
    refine lv_aload_n hx hb dX10_next_8 rfl (lv_at hl 0 rfl) ?_
    refine tm_get (C := RX10) (T := TX10) (N := 23) (v := .int (M 127 16)) hx hb hts nX10_next_X10 hown hK hP (hF 127 (by decide)) (tm_mkX10 (by decide) _) rfl 16 (by decide) (hts _ kX10_next_1) rfl dX10_next_9 ?_
    refine lv_aload_n hx hb dX10_next_12 rfl (lv_at hl 0 rfl) ?_
    refine tm_get (C := RX10) (T := TX10) (N := 23) (v := .int (M 127 13)) hx hb hts nX10_next_X10 hown hK hP (hF 127 (by decide)) (tm_mkX10 (by decide) _) rfl 13 (by decide) (hts _ kX10_next_2) rfl dX10_next_13 ?_
    refine lv_icmp_ge (tgt := 46) hx hb dX10_next_16 (by decide) (fun c3 => ?_) (fun c3 => ?_)
    · rw [if_pos c3] at h
      exact hk M h _ _ _ hP hS (lv_sub hl [0] rfl)
    · rw [if_neg c3] at h
      refine lv_aload_n hx hb dX10_next_19 rfl (lv_at hl 0 rfl) ?_
      refine tm_get (C := RX10) (T := TX10) (N := 23) (v := .ref (g.2.2 + 138)) hx hb hts nX10_next_X10 hown hK hP (hF 127 (by decide)) (tm_mkX10 (by decide) _) rfl 12 (by decide) (hts _ kX10_next_3) rfl dX10_next_20 ?_
      refine lv_aload_n hx hb dX10_next_23 rfl (lv_at hl 0 rfl) ?_
      refine tm_get (C := RX10) (T := TX10) (N := 23) (v := .int (M 127 16)) hx hb hts nX10_next_X10 hown hK hP (hF 127 (by decide)) (tm_mkX10 (by decide) _) rfl 16 (by decide) (hts _ kX10_next_1) rfl dX10_next_24 ?_
      obtain ⟨x4, e5, h⟩ := tm_bd_some h
      refine tm_iald hx hb hK hP (hF 138 (by decide)) (tm_mkI (n := 160) (by decide) (by decide)) e5 dX10_next_27 ?_
      refine lv_bipush (v := 32) hx hb dX10_next_28 (by decide) ?_
      refine lv_icmp_ne (tgt := 46) hx hb dX10_next_30 (by decide) (fun c6 => ?_) (fun c6 => ?_)
      · rw [if_neg c6] at h
        exact hk M h _ _ _ hP hS (lv_sub hl [0] rfl)
      · rw [if_pos c6] at h
        refine lv_aload_n hx hb dX10_next_33 rfl (lv_at hl 0 rfl) ?_
        refine lv_dup hx hb dX10_next_34 rfl ?_
        refine tm_get (C := RX10) (T := TX10) (N := 23) (v := .int (M 127 16)) hx hb hts nX10_next_X10 hown hK hP (hF 127 (by decide)) (tm_mkX10 (by decide) _) rfl 16 (by decide) (hts _ kX10_next_1) rfl dX10_next_35 ?_
        refine lv_iconst (v := 1) hx hb dX10_next_38 (by decide) ?_
        refine lv_iadd hx hb dX10_next_39 ?_
        obtain ⟨M7, e8, h⟩ := tm_bd_some h
        refine tm_put (C := RX10) (T := TX10) (N := 23) (ty := .int) (x := (M 127 16) + 1) hx hb hts nX10_next_X10 tyX10 tyX10_ok nmX10 hown hK hP hD hS (hF 127 (by decide)) (tm_mkX10 (by decide)) rfl 16 (by decide) (hts _ kX10_next_1) rfl (by decide +kernel) rfl rfl (Nat.le_of_ble_eq_true rfl) rfl (Option.some.inj e8) dX10_next_40 (fun H locs hP hS => ?_)
        refine lv_goto (tgt := 8) hx hb dX10_next_43 (by decide) ?_
        exact ih M7 h _ _ _ hP hS (lv_sub hl [0] rfl)
set_option maxHeartbeats 4000000 in
set_option maxRecDepth 100000 in
theorem w_X10_next_L74 {p : Program} {l : Launch} {e : Env} {s : State} {m : MethodId} {args : Array Value} {below : List Frame} {meth : Method} {c : Code} {g : tm_G} {A : Nat → Prop} {L : List Nat} (C0 : tm_C p m c cX10_next 1 s args wsX10_next RX10 meth none g A L tm_all) (k : tm_M → Option tm_M) (M0 : tm_M) (hk : ∀ (M : tm_M), k M = some M0 → ∀ (H : Heap) (locs : List Loc) (ls : Array Slot), va_P g.1 vwCl (tm_ws g L M) H → va_S A s.heap H locs → lv_has ls 1 [(0, .ref (g.2.2 + 127))] → W p l e { frames := 2, cells := 0, slots := 0, locals := 43 } s m args below meth c H locs 0 0 (MQ below (tm_QV g A L M0) args s 0 0 A) (F0 m 131 ls [])) : ∀ (n : Nat) (M : tm_M), f_X10_next_L74 k  n M = some M0 → ∀ (H : Heap) (locs : List Loc) (ls : Array Slot), va_P g.1 vwCl (tm_ws g L M) H → va_S A s.heap H locs → lv_has ls 1 [(0, .ref (g.2.2 + 127))] → W p l e { frames := 2, cells := 0, slots := 0, locals := 43 } s m args below meth c H locs 0 0 (MQ below (tm_QV g A L M0) args s 0 0 A) (F0 m 74 ls []) := by
  obtain ⟨⟨hx, hb, hml, hown, hts⟩, hr, hlk, hK, hD, hG, hF⟩ := id C0
  intro n
  induction n with
  | zero =>
    intro M h
    simp [f_X10_next_L74] at h
  | succ n ih =>
    intro M h H locs ls hP hS hl
    rw [f_X10_next_L74] at h
    refine lv_aload_n hx hb dX10_next_74 rfl (lv_at hl 0 rfl) ?_
    refine lv_aload_n hx hb dX10_next_75 rfl (lv_at hl 0 rfl) ?_
    refine tm_get (C := RX10) (T := TX10) (N := 23) (v := .int (M 127 16)) hx hb hts nX10_next_X10 hown hK hP (hF 127 (by decide)) (tm_mkX10 (by decide) _) rfl 16 (by decide) (hts _ kX10_next_1) rfl dX10_next_76 ?_
    obtain ⟨r13, e14, h⟩ := tm_bd_some h
    refine tm_backI (r0 := r13) (M0 := M) (fun _ q => q) (tm_callV (As := [.int (M 127 16)]) (rest := []) ⟨hx, hb, hml, hown, hts⟩ hK hG hP hS (c_X10_isSmall l g A L hD hF M (M 127 16) r13 e14) (cwV 1 hts gX10_next_X10_isSmall rfl rfl rfl (by decide +kernel) ⟨Nat.le_of_ble_eq_true rfl, Nat.le_of_ble_eq_true rfl⟩) (tm_recv hK hP (hF 127 (by decide)) (ci := 9) rfl (tm_mkX10 (by decide) _)) rfl hl.1 (lv_room (Nat.le_of_ble_eq_true rfl)) dX10_next_79 ⟨Nat.zero_le _, Nat.zero_le _⟩) hS (fun H locs hP hS => ?_)
    refine lv_if_eq (tgt := 96) hx hb dX10_next_82 (by decide) (fun c15 => ?_) (fun c15 => ?_)
    · rw [if_pos c15] at h
      refine lv_aload_n hx hb dX10_next_96 rfl (lv_at hl 0 rfl) ?_
      refine lv_aload_n hx hb dX10_next_97 rfl (lv_at hl 0 rfl) ?_
      refine tm_get (C := RX10) (T := TX10) (N := 23) (v := .int (M 127 16)) hx hb hts nX10_next_X10 hown hK hP (hF 127 (by decide)) (tm_mkX10 (by decide) _) rfl 16 (by decide) (hts _ kX10_next_1) rfl dX10_next_98 ?_
      obtain ⟨r16, e17, h⟩ := tm_bd_some h
      refine tm_backI (r0 := r16) (M0 := M) (fun _ q => q) (tm_callV (As := [.int (M 127 16)]) (rest := []) ⟨hx, hb, hml, hown, hts⟩ hK hG hP hS (c_X10_isDigit l g A L hD hF M (M 127 16) r16 e17) (cwV 1 hts gX10_next_X10_isDigit rfl rfl rfl (by decide +kernel) ⟨Nat.le_of_ble_eq_true rfl, Nat.le_of_ble_eq_true rfl⟩) (tm_recv hK hP (hF 127 (by decide)) (ci := 9) rfl (tm_mkX10 (by decide) _)) rfl hl.1 (lv_room (Nat.le_of_ble_eq_true rfl)) dX10_next_101 ⟨Nat.zero_le _, Nat.zero_le _⟩) hS (fun H locs hP hS => ?_)
      refine lv_if_eq (tgt := 131) hx hb dX10_next_104 (by decide) (fun c18 => ?_) (fun c18 => ?_)
      · rw [if_pos c18] at h
        exact hk M h _ _ _ hP hS (lv_sub hl [0] rfl)
      · rw [if_neg c18] at h
        refine lv_aload_n hx hb dX10_next_107 rfl (lv_at hl 0 rfl) ?_
        refine lv_aload_n hx hb dX10_next_108 rfl (lv_at hl 0 rfl) ?_
        refine tm_get (C := RX10) (T := TX10) (N := 23) (v := .int (M 127 17)) hx hb hts nX10_next_X10 hown hK hP (hF 127 (by decide)) (tm_mkX10 (by decide) _) rfl 17 (by decide) (hts _ kX10_next_0) rfl dX10_next_109 ?_
        obtain ⟨r19, e20, h⟩ := tm_bd_some h
        refine tm_backI (r0 := r19) (M0 := M) (fun _ q => q) (tm_callV (As := [.int (M 127 17)]) (rest := []) ⟨hx, hb, hml, hown, hts⟩ hK hG hP hS (c_X10_isDigit l g A L hD hF M (M 127 17) r19 e20) (cwV 1 hts gX10_next_X10_isDigit rfl rfl rfl (by decide +kernel) ⟨Nat.le_of_ble_eq_true rfl, Nat.le_of_ble_eq_true rfl⟩) (tm_recv hK hP (hF 127 (by decide)) (ci := 9) rfl (tm_mkX10 (by decide) _)) rfl hl.1 (lv_room (Nat.le_of_ble_eq_true rfl)) dX10_next_112 ⟨Nat.zero_le _, Nat.zero_le _⟩) hS (fun H locs hP hS => ?_)
        refine lv_if_eq (tgt := 131) hx hb dX10_next_115 (by decide) (fun c21 => ?_) (fun c21 => ?_)
        · rw [if_pos c21] at h
          exact hk M h _ _ _ hP hS (lv_sub hl [0] rfl)
        · rw [if_neg c21] at h
          refine lv_aload_n hx hb dX10_next_118 rfl (lv_at hl 0 rfl) ?_
          refine lv_dup hx hb dX10_next_119 rfl ?_
          refine tm_get (C := RX10) (T := TX10) (N := 23) (v := .int (M 127 17)) hx hb hts nX10_next_X10 hown hK hP (hF 127 (by decide)) (tm_mkX10 (by decide) _) rfl 17 (by decide) (hts _ kX10_next_0) rfl dX10_next_120 ?_
          refine lv_iconst (v := 1) hx hb dX10_next_123 (by decide) ?_
          refine lv_iadd hx hb dX10_next_124 ?_
          obtain ⟨M22, e23, h⟩ := tm_bd_some h
          refine tm_put (C := RX10) (T := TX10) (N := 23) (ty := .int) (x := (M 127 17) + 1) hx hb hts nX10_next_X10 tyX10 tyX10_ok nmX10 hown hK hP hD hS (hF 127 (by decide)) (tm_mkX10 (by decide)) rfl 17 (by decide) (hts _ kX10_next_0) rfl (by decide +kernel) rfl rfl (Nat.le_of_ble_eq_true rfl) rfl (Option.some.inj e23) dX10_next_125 (fun H locs hP hS => ?_)
          refine lv_goto (tgt := 74) hx hb dX10_next_128 (by decide) ?_
          exact ih M22 h _ _ _ hP hS (lv_sub hl [0] rfl)
    · rw [if_neg c15] at h
      refine lv_aload_n hx hb dX10_next_85 rfl (lv_at hl 0 rfl) ?_
      refine lv_aload_n hx hb dX10_next_86 rfl (lv_at hl 0 rfl) ?_
      refine tm_get (C := RX10) (T := TX10) (N := 23) (v := .int (M 127 17)) hx hb hts nX10_next_X10 hown hK hP (hF 127 (by decide)) (tm_mkX10 (by decide) _) rfl 17 (by decide) (hts _ kX10_next_0) rfl dX10_next_87 ?_
      obtain ⟨r24, e25, h⟩ := tm_bd_some h
      refine tm_backI (r0 := r24) (M0 := M) (fun _ q => q) (tm_callV (As := [.int (M 127 17)]) (rest := []) ⟨hx, hb, hml, hown, hts⟩ hK hG hP hS (c_X10_isSmall l g A L hD hF M (M 127 17) r24 e25) (cwV 1 hts gX10_next_X10_isSmall rfl rfl rfl (by decide +kernel) ⟨Nat.le_of_ble_eq_true rfl, Nat.le_of_ble_eq_true rfl⟩) (tm_recv hK hP (hF 127 (by decide)) (ci := 9) rfl (tm_mkX10 (by decide) _)) rfl hl.1 (lv_room (Nat.le_of_ble_eq_true rfl)) dX10_next_90 ⟨Nat.zero_le _, Nat.zero_le _⟩) hS (fun H locs hP hS => ?_)
      refine lv_if_ne (tgt := 118) hx hb dX10_next_93 (by decide) (fun c26 => ?_) (fun c26 => ?_)
      · rw [if_neg c26] at h
        refine lv_aload_n hx hb dX10_next_118 rfl (lv_at hl 0 rfl) ?_
        refine lv_dup hx hb dX10_next_119 rfl ?_
        refine tm_get (C := RX10) (T := TX10) (N := 23) (v := .int (M 127 17)) hx hb hts nX10_next_X10 hown hK hP (hF 127 (by decide)) (tm_mkX10 (by decide) _) rfl 17 (by decide) (hts _ kX10_next_0) rfl dX10_next_120 ?_
        refine lv_iconst (v := 1) hx hb dX10_next_123 (by decide) ?_
        refine lv_iadd hx hb dX10_next_124 ?_
        obtain ⟨M27, e28, h⟩ := tm_bd_some h
        refine tm_put (C := RX10) (T := TX10) (N := 23) (ty := .int) (x := (M 127 17) + 1) hx hb hts nX10_next_X10 tyX10 tyX10_ok nmX10 hown hK hP hD hS (hF 127 (by decide)) (tm_mkX10 (by decide)) rfl 17 (by decide) (hts _ kX10_next_0) rfl (by decide +kernel) rfl rfl (Nat.le_of_ble_eq_true rfl) rfl (Option.some.inj e28) dX10_next_125 (fun H locs hP hS => ?_)
        refine lv_goto (tgt := 74) hx hb dX10_next_128 (by decide) ?_
        exact ih M27 h _ _ _ hP hS (lv_sub hl [0] rfl)
      · rw [if_pos c26] at h
        refine lv_aload_n hx hb dX10_next_96 rfl (lv_at hl 0 rfl) ?_
        refine lv_aload_n hx hb dX10_next_97 rfl (lv_at hl 0 rfl) ?_
        refine tm_get (C := RX10) (T := TX10) (N := 23) (v := .int (M 127 16)) hx hb hts nX10_next_X10 hown hK hP (hF 127 (by decide)) (tm_mkX10 (by decide) _) rfl 16 (by decide) (hts _ kX10_next_1) rfl dX10_next_98 ?_
        obtain ⟨r29, e30, h⟩ := tm_bd_some h
        refine tm_backI (r0 := r29) (M0 := M) (fun _ q => q) (tm_callV (As := [.int (M 127 16)]) (rest := []) ⟨hx, hb, hml, hown, hts⟩ hK hG hP hS (c_X10_isDigit l g A L hD hF M (M 127 16) r29 e30) (cwV 1 hts gX10_next_X10_isDigit rfl rfl rfl (by decide +kernel) ⟨Nat.le_of_ble_eq_true rfl, Nat.le_of_ble_eq_true rfl⟩) (tm_recv hK hP (hF 127 (by decide)) (ci := 9) rfl (tm_mkX10 (by decide) _)) rfl hl.1 (lv_room (Nat.le_of_ble_eq_true rfl)) dX10_next_101 ⟨Nat.zero_le _, Nat.zero_le _⟩) hS (fun H locs hP hS => ?_)
        refine lv_if_eq (tgt := 131) hx hb dX10_next_104 (by decide) (fun c31 => ?_) (fun c31 => ?_)
        · rw [if_pos c31] at h
          exact hk M h _ _ _ hP hS (lv_sub hl [0] rfl)
        · rw [if_neg c31] at h
          refine lv_aload_n hx hb dX10_next_107 rfl (lv_at hl 0 rfl) ?_
          refine lv_aload_n hx hb dX10_next_108 rfl (lv_at hl 0 rfl) ?_
          refine tm_get (C := RX10) (T := TX10) (N := 23) (v := .int (M 127 17)) hx hb hts nX10_next_X10 hown hK hP (hF 127 (by decide)) (tm_mkX10 (by decide) _) rfl 17 (by decide) (hts _ kX10_next_0) rfl dX10_next_109 ?_
          obtain ⟨r32, e33, h⟩ := tm_bd_some h
          refine tm_backI (r0 := r32) (M0 := M) (fun _ q => q) (tm_callV (As := [.int (M 127 17)]) (rest := []) ⟨hx, hb, hml, hown, hts⟩ hK hG hP hS (c_X10_isDigit l g A L hD hF M (M 127 17) r32 e33) (cwV 1 hts gX10_next_X10_isDigit rfl rfl rfl (by decide +kernel) ⟨Nat.le_of_ble_eq_true rfl, Nat.le_of_ble_eq_true rfl⟩) (tm_recv hK hP (hF 127 (by decide)) (ci := 9) rfl (tm_mkX10 (by decide) _)) rfl hl.1 (lv_room (Nat.le_of_ble_eq_true rfl)) dX10_next_112 ⟨Nat.zero_le _, Nat.zero_le _⟩) hS (fun H locs hP hS => ?_)
          refine lv_if_eq (tgt := 131) hx hb dX10_next_115 (by decide) (fun c34 => ?_) (fun c34 => ?_)
          · rw [if_pos c34] at h
            exact hk M h _ _ _ hP hS (lv_sub hl [0] rfl)
          · rw [if_neg c34] at h
            refine lv_aload_n hx hb dX10_next_118 rfl (lv_at hl 0 rfl) ?_
            refine lv_dup hx hb dX10_next_119 rfl ?_
            refine tm_get (C := RX10) (T := TX10) (N := 23) (v := .int (M 127 17)) hx hb hts nX10_next_X10 hown hK hP (hF 127 (by decide)) (tm_mkX10 (by decide) _) rfl 17 (by decide) (hts _ kX10_next_0) rfl dX10_next_120 ?_
            refine lv_iconst (v := 1) hx hb dX10_next_123 (by decide) ?_
            refine lv_iadd hx hb dX10_next_124 ?_
            obtain ⟨M35, e36, h⟩ := tm_bd_some h
            refine tm_put (C := RX10) (T := TX10) (N := 23) (ty := .int) (x := (M 127 17) + 1) hx hb hts nX10_next_X10 tyX10 tyX10_ok nmX10 hown hK hP hD hS (hF 127 (by decide)) (tm_mkX10 (by decide)) rfl 17 (by decide) (hts _ kX10_next_0) rfl (by decide +kernel) rfl rfl (Nat.le_of_ble_eq_true rfl) rfl (Option.some.inj e36) dX10_next_125 (fun H locs hP hS => ?_)
            refine lv_goto (tgt := 74) hx hb dX10_next_128 (by decide) ?_
            exact ih M35 h _ _ _ hP hS (lv_sub hl [0] rfl)
set_option maxHeartbeats 4000000 in
set_option maxRecDepth 100000 in
theorem c_X10_next (l : Launch) (g : tm_G) (A : Nat → Prop) (L : List Nat) (hD : ∀ M, va_D A (tm_ws g L M)) (hF : ∀ o, tm_all o → o ∈ L) (M : tm_M) (M0 : tm_M) (h : f_X10_next M = some M0) : Met l yX10_next wsX10_next { frames := 2, cells := 0, slots := 0, locals := 43 } (tm_PC g A L M [.ref (g.2.2 + 127)]) (tm_QV g A L M0) 0 0 A := by
  refine tm_start (cc := cX10_next) (nL := 1) (ret := none) (F := tm_all) (plainFor_of_name (by decide)) rfl (Nat.le_of_ble_eq_true rfl) hD hF (fun p e s m args below meth c ls C0 hP hS hl => ?_)
  have hl : lv_has ls 1 [(0, .ref (g.2.2 + 127))] := hl
  have C0 : tm_C p m c cX10_next 1 s args wsX10_next RX10 meth none g A L tm_all := C0
  obtain ⟨⟨hx, hb, hml, hown, hts⟩, hr, hlk, hK, hD, hG, hF⟩ := id C0
  unfold f_X10_next at h
  refine lv_aload_n hx hb dX10_next_0 rfl (lv_at hl 0 rfl) ?_
  refine lv_aload_n hx hb dX10_next_1 rfl (lv_at hl 0 rfl) ?_
  refine tm_get (C := RX10) (T := TX10) (N := 23) (v := .int (M 127 17)) hx hb hts nX10_next_X10 hown hK hP (hF 127 (by decide)) (tm_mkX10 (by decide) _) rfl 17 (by decide) (hts _ kX10_next_0) rfl dX10_next_2 ?_
  obtain ⟨M1, e2, h⟩ := tm_bd_some h
  refine tm_put (C := RX10) (T := TX10) (N := 23) (ty := .int) (x := M 127 17) hx hb hts nX10_next_X10 tyX10 tyX10_ok nmX10 hown hK hP hD hS (hF 127 (by decide)) (tm_mkX10 (by decide)) rfl 16 (by decide) (hts _ kX10_next_1) rfl (by decide +kernel) rfl rfl (Nat.le_of_ble_eq_true rfl) rfl (Option.some.inj e2) dX10_next_5 (fun H locs hP hS => ?_)
  refine w_X10_next_L8 C0  _ M0 (fun M9 h H locs ls hP hS hl => ?_) 1000 M1 h _ _ _ hP hS (lv_sub hl [0] rfl)
  refine lv_aload_n hx hb dX10_next_46 rfl (lv_at hl 0 rfl) ?_
  refine lv_aload_n hx hb dX10_next_47 rfl (lv_at hl 0 rfl) ?_
  refine tm_get (C := RX10) (T := TX10) (N := 23) (v := .int (M9 127 16)) hx hb hts nX10_next_X10 hown hK hP (hF 127 (by decide)) (tm_mkX10 (by decide) _) rfl 16 (by decide) (hts _ kX10_next_1) rfl dX10_next_48 ?_
  refine lv_aload_n hx hb dX10_next_51 rfl (lv_at hl 0 rfl) ?_
  refine tm_get (C := RX10) (T := TX10) (N := 23) (v := .int (M9 127 13)) hx hb hts nX10_next_X10 hown hK hP (hF 127 (by decide)) (tm_mkX10 (by decide) _) rfl 13 (by decide) (hts _ kX10_next_2) rfl dX10_next_52 ?_
  refine lv_icmp_ge (tgt := 67) hx hb dX10_next_55 (by decide) (fun c10 => ?_) (fun c10 => ?_)
  · rw [if_pos c10] at h
    refine lv_aload_n hx hb dX10_next_67 rfl (lv_at hl 0 rfl) ?_
    refine tm_get (C := RX10) (T := TX10) (N := 23) (v := .int (M9 127 16)) hx hb hts nX10_next_X10 hown hK hP (hF 127 (by decide)) (tm_mkX10 (by decide) _) rfl 16 (by decide) (hts _ kX10_next_1) rfl dX10_next_68 ?_
    obtain ⟨M11, e12, h⟩ := tm_bd_some h
    refine tm_put (C := RX10) (T := TX10) (N := 23) (ty := .int) (x := M9 127 16) hx hb hts nX10_next_X10 tyX10 tyX10_ok nmX10 hown hK hP hD hS (hF 127 (by decide)) (tm_mkX10 (by decide)) rfl 17 (by decide) (hts _ kX10_next_0) rfl (by decide +kernel) rfl rfl (Nat.le_of_ble_eq_true rfl) rfl (Option.some.inj e12) dX10_next_71 (fun H locs hP hS => ?_)
    refine w_X10_next_L74 C0  _ M0 (fun M37 h H locs ls hP hS hl => ?_) 1000 M11 h _ _ _ hP hS (lv_sub hl [0] rfl)
    exact tm_vret C0 (Option.some.inj h) hP hS dX10_next_131
  · rw [if_neg c10] at h
    refine lv_aload_n hx hb dX10_next_58 rfl (lv_at hl 0 rfl) ?_
    refine tm_get (C := RX10) (T := TX10) (N := 23) (v := .int (M9 127 16)) hx hb hts nX10_next_X10 hown hK hP (hF 127 (by decide)) (tm_mkX10 (by decide) _) rfl 16 (by decide) (hts _ kX10_next_1) rfl dX10_next_59 ?_
    refine lv_iconst (v := 1) hx hb dX10_next_62 (by decide) ?_
    refine lv_iadd hx hb dX10_next_63 ?_
    refine lv_goto (tgt := 71) hx hb dX10_next_64 (by decide) ?_
    obtain ⟨M38, e39, h⟩ := tm_bd_some h
    refine tm_put (C := RX10) (T := TX10) (N := 23) (ty := .int) (x := (M9 127 16) + 1) hx hb hts nX10_next_X10 tyX10 tyX10_ok nmX10 hown hK hP hD hS (hF 127 (by decide)) (tm_mkX10 (by decide)) rfl 17 (by decide) (hts _ kX10_next_0) rfl (by decide +kernel) rfl rfl (Nat.le_of_ble_eq_true rfl) rfl (Option.some.inj e39) dX10_next_71 (fun H locs hP hS => ?_)
    refine w_X10_next_L74 C0  _ M0 (fun M40 h H locs ls hP hS hl => ?_) 1000 M38 h _ _ _ hP hS (lv_sub hl [0] rfl)
    exact tm_vret C0 (Option.some.inj h) hP hS dX10_next_131
/-! X10_isWord -/
theorem nX10_isWord_X10 : ∀ w ∈ wsX100, w ∈ wsX10_isWord := by decide +kernel
theorem kX10_isWord_0 : Cond.fieldLink RX10 76 "QuarrelDeskModel" "behind" "I" ∈ wsX10_isWord := by decide +kernel
theorem kX10_isWord_1 : Cond.fieldLink RX10 79 "QuarrelDeskModel" "at" "I" ∈ wsX10_isWord := by decide +kernel
theorem kX10_isWord_2 : Cond.fieldLink RX10 7 "QuarrelDeskModel" "words" "[I" ∈ wsX10_isWord := by decide +kernel
theorem kX10_isWord_3 : Cond.fieldLink RX10 41 "QuarrelDeskModel" "text" "[I" ∈ wsX10_isWord := by decide +kernel
def f_X10_isWord_L22 (k : Int32 → Int32 → Option Int32) (M : tm_M) (w1 : Int32) : Nat → Int32 → Int32 → Option Int32
  | 0, _, _ => none
  | n + 1, v2, v3 =>
    if 7 ≤ v3 then
      k v2 v3
    else
      if v2 = 0 then
        k v2 v3
      else
        if (M 127 17) ≤ ((M 127 16) + v3) then
          (tm_rd M 128 77 ((7 * w1) + v3)).bind fun x5 =>
          if 0 = x5 then
            f_X10_isWord_L22 k M w1 n 1 (v3 + 1)
          else
            f_X10_isWord_L22 k M w1 n 0 (v3 + 1)
        else
          (tm_rd M 138 160 ((M 127 16) + v3)).bind fun x8 =>
          (tm_rd M 128 77 ((7 * w1) + v3)).bind fun x10 =>
          if x8 = x10 then
            f_X10_isWord_L22 k M w1 n 1 (v3 + 1)
          else
            f_X10_isWord_L22 k M w1 n 0 (v3 + 1)
def f_X10_isWord (M : tm_M) (p1 : Int32) : Option Int32 :=
  if 7 < ((M 127 17) - (M 127 16)) then
    f_X10_isWord_L22 (fun v13 v14 =>
      tm_gd (v13 = 0 ∨ v13 = 1) <|
      some v13) M p1 1000 0 0
  else
    f_X10_isWord_L22 (fun v16 v17 =>
      tm_gd (v16 = 0 ∨ v16 = 1) <|
      some v16) M p1 1000 1 0
set_option maxHeartbeats 4000000 in
set_option maxRecDepth 100000 in
theorem w_X10_isWord_L22 {p : Program} {l : Launch} {e : Env} {s : State} {m : MethodId} {args : Array Value} {below : List Frame} {meth : Method} {c : Code} {g : tm_G} {A : Nat → Prop} {L : List Nat} (C0 : tm_C p m c cX10_isWord 5 s args wsX10_isWord RX10 meth (some .boolean) g A L tm_all) (M : tm_M) (w1 : Int32) (k : Int32 → Int32 → Option Int32) (r0 : Int32) (hk : ∀ (v2 : Int32) (v3 : Int32), k v2 v3 = some r0 → ∀ (H : Heap) (locs : List Loc) (ls : Array Slot), va_P g.1 vwCl (tm_ws g L M) H → va_S A s.heap H locs → lv_has ls 5 [(0, .ref (g.2.2 + 127)), (1, .int w1), (2, .int v2), (3, .int v3)] → W p l e { frames := 0, cells := 0, slots := 0, locals := 0 } s m args below meth c H locs 0 0 (MQ below (tm_QI g A L (r0, M)) args s 0 0 A) (F0 m 90 ls [])) : ∀ (n : Nat) (v2 : Int32) (v3 : Int32), f_X10_isWord_L22 k M w1 n v2 v3 = some r0 → ∀ (H : Heap) (locs : List Loc) (ls : Array Slot), va_P g.1 vwCl (tm_ws g L M) H → va_S A s.heap H locs → lv_has ls 5 [(0, .ref (g.2.2 + 127)), (1, .int w1), (2, .int v2), (3, .int v3)] → W p l e { frames := 0, cells := 0, slots := 0, locals := 0 } s m args below meth c H locs 0 0 (MQ below (tm_QI g A L (r0, M)) args s 0 0 A) (F0 m 22 ls []) := by
  obtain ⟨⟨hx, hb, hml, hown, hts⟩, hr, hlk, hK, hD, hG, hF⟩ := id C0
  intro n
  induction n with
  | zero =>
    intro v2 v3 h
    simp [f_X10_isWord_L22] at h
  | succ n ih =>
    intro v2 v3 h H locs ls hP hS hl
    rw [f_X10_isWord_L22] at h
    refine lv_iload_n hx hb dX10_isWord_22 rfl (lv_at hl 3 rfl) ?_
    refine lv_bipush (v := 7) hx hb dX10_isWord_23 (by decide) ?_
    refine lv_icmp_ge (tgt := 90) hx hb dX10_isWord_25 (by decide) (fun c2 => ?_) (fun c2 => ?_)
    · rw [if_pos c2] at h
      exact hk v2 v3 h _ _ _ hP hS (lv_sub hl [0, 1, 2, 3] rfl)
    · rw [if_neg c2] at h
      refine lv_iload_n hx hb dX10_isWord_28 rfl (lv_at hl 2 rfl) ?_
      refine lv_if_eq (tgt := 90) hx hb dX10_isWord_29 (by decide) (fun c3 => ?_) (fun c3 => ?_)
      · rw [if_pos c3] at h
        exact hk v2 v3 h _ _ _ hP hS (lv_sub hl [0, 1, 2, 3] rfl)
      · rw [if_neg c3] at h
        refine lv_aload_n hx hb dX10_isWord_32 rfl (lv_at hl 0 rfl) ?_
        refine tm_get (C := RX10) (T := TX10) (N := 23) (v := .int (M 127 16)) hx hb hts nX10_isWord_X10 hown hK hP (hF 127 (by decide)) (tm_mkX10 (by decide) _) rfl 16 (by decide) (hts _ kX10_isWord_1) rfl dX10_isWord_33 ?_
        refine lv_iload_n hx hb dX10_isWord_36 rfl (lv_at hl 3 rfl) ?_
        refine lv_iadd hx hb dX10_isWord_37 ?_
        refine lv_aload_n hx hb dX10_isWord_38 rfl (lv_at hl 0 rfl) ?_
        refine tm_get (C := RX10) (T := TX10) (N := 23) (v := .int (M 127 17)) hx hb hts nX10_isWord_X10 hown hK hP (hF 127 (by decide)) (tm_mkX10 (by decide) _) rfl 17 (by decide) (hts _ kX10_isWord_0) rfl dX10_isWord_39 ?_
        refine lv_icmp_ge (tgt := 59) hx hb dX10_isWord_42 (by decide) (fun c4 => ?_) (fun c4 => ?_)
        · rw [if_pos c4] at h
          refine lv_iconst (v := 0) hx hb dX10_isWord_59 (by decide) ?_
          refine lv_istore (lv' := [(4, .int 0), (0, .ref (g.2.2 + 127)), (1, .int w1), (2, .int v2), (3, .int v3)]) hx hb dX10_isWord_60 hl (by decide) rfl (fun ls hl => ?_)
          refine lv_iload hx hb dX10_isWord_62 (lv_at hl 0 rfl) ?_
          refine lv_aload_n hx hb dX10_isWord_64 rfl (lv_at hl 1 rfl) ?_
          refine tm_get (C := RX10) (T := TX10) (N := 23) (v := .ref (g.2.2 + 128)) hx hb hts nX10_isWord_X10 hown hK hP (hF 127 (by decide)) (tm_mkX10 (by decide) _) rfl 0 (by decide) (hts _ kX10_isWord_2) rfl dX10_isWord_65 ?_
          refine lv_bipush (v := 7) hx hb dX10_isWord_68 (by decide) ?_
          refine lv_iload_n hx hb dX10_isWord_70 rfl (lv_at hl 2 rfl) ?_
          refine lv_imul hx hb dX10_isWord_71 ?_
          refine lv_iload_n hx hb dX10_isWord_72 rfl (lv_at hl 4 rfl) ?_
          refine lv_iadd hx hb dX10_isWord_73 ?_
          obtain ⟨x5, e6, h⟩ := tm_bd_some h
          refine tm_iald hx hb hK hP (hF 128 (by decide)) (tm_mkI (n := 77) (by decide) (by decide)) e6 dX10_isWord_74 ?_
          refine lv_icmp_ne (tgt := 82) hx hb dX10_isWord_75 (by decide) (fun c7 => ?_) (fun c7 => ?_)
          · rw [if_neg c7] at h
            refine lv_iconst (v := 0) hx hb dX10_isWord_82 (by decide) ?_
            refine lv_istore_n (lv' := [(2, .int 0), (4, .int 0), (0, .ref (g.2.2 + 127)), (1, .int w1), (3, .int v3)]) hx hb dX10_isWord_83 rfl hl (by decide) rfl (fun ls hl => ?_)
            refine lv_iinc (v := v3 + 1) (lv' := [(3, .int (v3 + 1)), (2, .int 0), (4, .int 0), (0, .ref (g.2.2 + 127)), (1, .int w1)]) hx hb dX10_isWord_84 hl (k := 4) rfl rfl (by decide) rfl (fun ls hl => ?_)
            refine lv_goto (tgt := 22) hx hb dX10_isWord_87 (by decide) ?_
            exact ih 0 (v3 + 1) h _ _ _ hP hS (lv_sub hl [3, 4, 1, 0] rfl)
          · rw [if_pos c7] at h
            refine lv_iconst (v := 1) hx hb dX10_isWord_78 (by decide) ?_
            refine lv_goto (tgt := 83) hx hb dX10_isWord_79 (by decide) ?_
            refine lv_istore_n (lv' := [(2, .int 1), (4, .int 0), (0, .ref (g.2.2 + 127)), (1, .int w1), (3, .int v3)]) hx hb dX10_isWord_83 rfl hl (by decide) rfl (fun ls hl => ?_)
            refine lv_iinc (v := v3 + 1) (lv' := [(3, .int (v3 + 1)), (2, .int 1), (4, .int 0), (0, .ref (g.2.2 + 127)), (1, .int w1)]) hx hb dX10_isWord_84 hl (k := 4) rfl rfl (by decide) rfl (fun ls hl => ?_)
            refine lv_goto (tgt := 22) hx hb dX10_isWord_87 (by decide) ?_
            exact ih 1 (v3 + 1) h _ _ _ hP hS (lv_sub hl [3, 4, 1, 0] rfl)
        · rw [if_neg c4] at h
          refine lv_aload_n hx hb dX10_isWord_45 rfl (lv_at hl 0 rfl) ?_
          refine tm_get (C := RX10) (T := TX10) (N := 23) (v := .ref (g.2.2 + 138)) hx hb hts nX10_isWord_X10 hown hK hP (hF 127 (by decide)) (tm_mkX10 (by decide) _) rfl 12 (by decide) (hts _ kX10_isWord_3) rfl dX10_isWord_46 ?_
          refine lv_aload_n hx hb dX10_isWord_49 rfl (lv_at hl 0 rfl) ?_
          refine tm_get (C := RX10) (T := TX10) (N := 23) (v := .int (M 127 16)) hx hb hts nX10_isWord_X10 hown hK hP (hF 127 (by decide)) (tm_mkX10 (by decide) _) rfl 16 (by decide) (hts _ kX10_isWord_1) rfl dX10_isWord_50 ?_
          refine lv_iload_n hx hb dX10_isWord_53 rfl (lv_at hl 3 rfl) ?_
          refine lv_iadd hx hb dX10_isWord_54 ?_
          obtain ⟨x8, e9, h⟩ := tm_bd_some h
          refine tm_iald hx hb hK hP (hF 138 (by decide)) (tm_mkI (n := 160) (by decide) (by decide)) e9 dX10_isWord_55 ?_
          refine lv_goto (tgt := 60) hx hb dX10_isWord_56 (by decide) ?_
          refine lv_istore (lv' := [(4, .int x8), (0, .ref (g.2.2 + 127)), (1, .int w1), (2, .int v2), (3, .int v3)]) hx hb dX10_isWord_60 hl (by decide) rfl (fun ls hl => ?_)
          refine lv_iload hx hb dX10_isWord_62 (lv_at hl 0 rfl) ?_
          refine lv_aload_n hx hb dX10_isWord_64 rfl (lv_at hl 1 rfl) ?_
          refine tm_get (C := RX10) (T := TX10) (N := 23) (v := .ref (g.2.2 + 128)) hx hb hts nX10_isWord_X10 hown hK hP (hF 127 (by decide)) (tm_mkX10 (by decide) _) rfl 0 (by decide) (hts _ kX10_isWord_2) rfl dX10_isWord_65 ?_
          refine lv_bipush (v := 7) hx hb dX10_isWord_68 (by decide) ?_
          refine lv_iload_n hx hb dX10_isWord_70 rfl (lv_at hl 2 rfl) ?_
          refine lv_imul hx hb dX10_isWord_71 ?_
          refine lv_iload_n hx hb dX10_isWord_72 rfl (lv_at hl 4 rfl) ?_
          refine lv_iadd hx hb dX10_isWord_73 ?_
          obtain ⟨x10, e11, h⟩ := tm_bd_some h
          refine tm_iald hx hb hK hP (hF 128 (by decide)) (tm_mkI (n := 77) (by decide) (by decide)) e11 dX10_isWord_74 ?_
          refine lv_icmp_ne (tgt := 82) hx hb dX10_isWord_75 (by decide) (fun c12 => ?_) (fun c12 => ?_)
          · rw [if_neg c12] at h
            refine lv_iconst (v := 0) hx hb dX10_isWord_82 (by decide) ?_
            refine lv_istore_n (lv' := [(2, .int 0), (4, .int x8), (0, .ref (g.2.2 + 127)), (1, .int w1), (3, .int v3)]) hx hb dX10_isWord_83 rfl hl (by decide) rfl (fun ls hl => ?_)
            refine lv_iinc (v := v3 + 1) (lv' := [(3, .int (v3 + 1)), (2, .int 0), (4, .int x8), (0, .ref (g.2.2 + 127)), (1, .int w1)]) hx hb dX10_isWord_84 hl (k := 4) rfl rfl (by decide) rfl (fun ls hl => ?_)
            refine lv_goto (tgt := 22) hx hb dX10_isWord_87 (by decide) ?_
            exact ih 0 (v3 + 1) h _ _ _ hP hS (lv_sub hl [3, 4, 1, 0] rfl)
          · rw [if_pos c12] at h
            refine lv_iconst (v := 1) hx hb dX10_isWord_78 (by decide) ?_
            refine lv_goto (tgt := 83) hx hb dX10_isWord_79 (by decide) ?_
            refine lv_istore_n (lv' := [(2, .int 1), (4, .int x8), (0, .ref (g.2.2 + 127)), (1, .int w1), (3, .int v3)]) hx hb dX10_isWord_83 rfl hl (by decide) rfl (fun ls hl => ?_)
            refine lv_iinc (v := v3 + 1) (lv' := [(3, .int (v3 + 1)), (2, .int 1), (4, .int x8), (0, .ref (g.2.2 + 127)), (1, .int w1)]) hx hb dX10_isWord_84 hl (k := 4) rfl rfl (by decide) rfl (fun ls hl => ?_)
            refine lv_goto (tgt := 22) hx hb dX10_isWord_87 (by decide) ?_
            exact ih 1 (v3 + 1) h _ _ _ hP hS (lv_sub hl [3, 4, 1, 0] rfl)
set_option maxHeartbeats 4000000 in
set_option maxRecDepth 100000 in
theorem c_X10_isWord (l : Launch) (g : tm_G) (A : Nat → Prop) (L : List Nat) (hD : ∀ M, va_D A (tm_ws g L M)) (hF : ∀ o, tm_all o → o ∈ L) (M : tm_M) (p1 : Int32) (r0 : Int32) (h : f_X10_isWord M p1 = some r0) : Met l yX10_isWord wsX10_isWord { frames := 0, cells := 0, slots := 0, locals := 0 } (tm_PC g A L M [.ref (g.2.2 + 127), .int p1]) (tm_QI g A L (r0, M)) 0 0 A := by
  refine tm_start (cc := cX10_isWord) (nL := 5) (ret := (some .boolean)) (F := tm_all) (plainFor_of_name (by decide)) rfl (Nat.le_of_ble_eq_true rfl) hD hF (fun p e s m args below meth c ls C0 hP hS hl => ?_)
  have hl : lv_has ls 5 [(0, .ref (g.2.2 + 127)), (1, .int p1)] := hl
  have C0 : tm_C p m c cX10_isWord 5 s args wsX10_isWord RX10 meth (some .boolean) g A L tm_all := C0
  obtain ⟨⟨hx, hb, hml, hown, hts⟩, hr, hlk, hK, hD, hG, hF⟩ := id C0
  unfold f_X10_isWord at h
  refine lv_aload_n hx hb dX10_isWord_0 rfl (lv_at hl 0 rfl) ?_
  refine tm_get (C := RX10) (T := TX10) (N := 23) (v := .int (M 127 17)) hx hb hts nX10_isWord_X10 hown hK hP (hF 127 (by decide)) (tm_mkX10 (by decide) _) rfl 17 (by decide) (hts _ kX10_isWord_0) rfl dX10_isWord_1 ?_
  refine lv_aload_n hx hb dX10_isWord_4 rfl (lv_at hl 0 rfl) ?_
  refine tm_get (C := RX10) (T := TX10) (N := 23) (v := .int (M 127 16)) hx hb hts nX10_isWord_X10 hown hK hP (hF 127 (by decide)) (tm_mkX10 (by decide) _) rfl 16 (by decide) (hts _ kX10_isWord_1) rfl dX10_isWord_5 ?_
  refine lv_isub hx hb dX10_isWord_8 ?_
  refine lv_bipush (v := 7) hx hb dX10_isWord_9 (by decide) ?_
  refine lv_icmp_gt (tgt := 18) hx hb dX10_isWord_11 (by decide) (fun c1 => ?_) (fun c1 => ?_)
  · rw [if_pos c1] at h
    refine lv_iconst (v := 0) hx hb dX10_isWord_18 (by decide) ?_
    refine lv_istore_n (lv' := [(2, .int 0), (0, .ref (g.2.2 + 127)), (1, .int p1)]) hx hb dX10_isWord_19 rfl hl (by decide) rfl (fun ls hl => ?_)
    refine lv_iconst (v := 0) hx hb dX10_isWord_20 (by decide) ?_
    refine lv_istore_n (lv' := [(3, .int 0), (2, .int 0), (0, .ref (g.2.2 + 127)), (1, .int p1)]) hx hb dX10_isWord_21 rfl hl (by decide) rfl (fun ls hl => ?_)
    refine w_X10_isWord_L22 C0 M p1 _ r0 (fun v13 v14 h H locs ls hP hS hl => ?_) 1000 0 0 h _ _ _ hP hS (lv_sub hl [2, 3, 1, 0] rfl)
    refine lv_iload_n hx hb dX10_isWord_90 rfl (lv_at hl 2 rfl) ?_
    obtain ⟨g15, h⟩ := tm_gd_some h
    exact tm_zret C0 g15 (by rw [Option.some.inj h]) hP hS dX10_isWord_91
  · rw [if_neg c1] at h
    refine lv_iconst (v := 1) hx hb dX10_isWord_14 (by decide) ?_
    refine lv_goto (tgt := 19) hx hb dX10_isWord_15 (by decide) ?_
    refine lv_istore_n (lv' := [(2, .int 1), (0, .ref (g.2.2 + 127)), (1, .int p1)]) hx hb dX10_isWord_19 rfl hl (by decide) rfl (fun ls hl => ?_)
    refine lv_iconst (v := 0) hx hb dX10_isWord_20 (by decide) ?_
    refine lv_istore_n (lv' := [(3, .int 0), (2, .int 1), (0, .ref (g.2.2 + 127)), (1, .int p1)]) hx hb dX10_isWord_21 rfl hl (by decide) rfl (fun ls hl => ?_)
    refine w_X10_isWord_L22 C0 M p1 _ r0 (fun v16 v17 h H locs ls hP hS hl => ?_) 1000 1 0 h _ _ _ hP hS (lv_sub hl [2, 3, 1, 0] rfl)
    refine lv_iload_n hx hb dX10_isWord_90 rfl (lv_at hl 2 rfl) ?_
    obtain ⟨g18, h⟩ := tm_gd_some h
    exact tm_zret C0 g18 (by rw [Option.some.inj h]) hP hS dX10_isWord_91
/-! X10_word -/
theorem nX10_word_X10 : ∀ w ∈ wsX100, w ∈ wsX10_word := by decide +kernel
theorem kX10_word_0 : Cond.fieldLink RX10 79 "QuarrelDeskModel" "at" "I" ∈ wsX10_word := by decide +kernel
def f_X10_word_L2 (k : Int32 → Option Int32) (M : tm_M) : Nat → Int32 → Option Int32
  | 0, _ => none
  | n + 1, v1 =>
    if 11 ≤ v1 then
      k v1
    else
      (f_X10_isSmall M (M 127 16)).bind fun r2 =>
      if r2 = 0 then
        f_X10_word_L2 k M n (v1 + 1)
      else
        (f_X10_isWord M v1).bind fun r5 =>
        if r5 = 0 then
          f_X10_word_L2 k M n (v1 + 1)
        else
          some v1
def f_X10_word (M : tm_M) : Option Int32 :=
  f_X10_word_L2 (fun v8 =>
    some (-1)) M 1000 0
set_option maxHeartbeats 4000000 in
set_option maxRecDepth 100000 in
theorem w_X10_word_L2 {p : Program} {l : Launch} {e : Env} {s : State} {m : MethodId} {args : Array Value} {below : List Frame} {meth : Method} {c : Code} {g : tm_G} {A : Nat → Prop} {L : List Nat} (C0 : tm_C p m c cX10_word 2 s args wsX10_word RX10 meth (some .int) g A L tm_all) (M : tm_M) (k : Int32 → Option Int32) (r0 : Int32) (hk : ∀ (v1 : Int32), k v1 = some r0 → ∀ (H : Heap) (locs : List Loc) (ls : Array Slot), va_P g.1 vwCl (tm_ws g L M) H → va_S A s.heap H locs → lv_has ls 2 [(0, .ref (g.2.2 + 127)), (1, .int v1)] → W p l e { frames := 2, cells := 0, slots := 0, locals := 43 } s m args below meth c H locs 0 0 (MQ below (tm_QI g A L (r0, M)) args s 0 0 A) (F0 m 35 ls [])) : ∀ (n : Nat) (v1 : Int32), f_X10_word_L2 k M n v1 = some r0 → ∀ (H : Heap) (locs : List Loc) (ls : Array Slot), va_P g.1 vwCl (tm_ws g L M) H → va_S A s.heap H locs → lv_has ls 2 [(0, .ref (g.2.2 + 127)), (1, .int v1)] → W p l e { frames := 2, cells := 0, slots := 0, locals := 43 } s m args below meth c H locs 0 0 (MQ below (tm_QI g A L (r0, M)) args s 0 0 A) (F0 m 2 ls []) := by
  obtain ⟨⟨hx, hb, hml, hown, hts⟩, hr, hlk, hK, hD, hG, hF⟩ := id C0
  intro n
  induction n with
  | zero =>
    intro v1 h
    simp [f_X10_word_L2] at h
  | succ n ih =>
    intro v1 h H locs ls hP hS hl
    rw [f_X10_word_L2] at h
    refine lv_iload_n hx hb dX10_word_2 rfl (lv_at hl 1 rfl) ?_
    refine lv_bipush (v := 11) hx hb dX10_word_3 (by decide) ?_
    refine lv_icmp_ge (tgt := 35) hx hb dX10_word_5 (by decide) (fun c1 => ?_) (fun c1 => ?_)
    · rw [if_pos c1] at h
      exact hk v1 h _ _ _ hP hS (lv_sub hl [0, 1] rfl)
    · rw [if_neg c1] at h
      refine lv_aload_n hx hb dX10_word_8 rfl (lv_at hl 0 rfl) ?_
      refine lv_aload_n hx hb dX10_word_9 rfl (lv_at hl 0 rfl) ?_
      refine tm_get (C := RX10) (T := TX10) (N := 23) (v := .int (M 127 16)) hx hb hts nX10_word_X10 hown hK hP (hF 127 (by decide)) (tm_mkX10 (by decide) _) rfl 16 (by decide) (hts _ kX10_word_0) rfl dX10_word_10 ?_
      obtain ⟨r2, e3, h⟩ := tm_bd_some h
      refine tm_backI (r0 := r2) (M0 := M) (fun _ q => q) (tm_callV (As := [.int (M 127 16)]) (rest := []) ⟨hx, hb, hml, hown, hts⟩ hK hG hP hS (c_X10_isSmall l g A L hD hF M (M 127 16) r2 e3) (cwV 1 hts gX10_word_X10_isSmall rfl rfl rfl (by decide +kernel) ⟨Nat.le_of_ble_eq_true rfl, Nat.le_of_ble_eq_true rfl⟩) (tm_recv hK hP (hF 127 (by decide)) (ci := 9) rfl (tm_mkX10 (by decide) _)) rfl hl.1 (lv_room (Nat.le_of_ble_eq_true rfl)) dX10_word_13 ⟨Nat.zero_le _, Nat.zero_le _⟩) hS (fun H locs hP hS => ?_)
      refine lv_if_eq (tgt := 29) hx hb dX10_word_16 (by decide) (fun c4 => ?_) (fun c4 => ?_)
      · rw [if_pos c4] at h
        refine lv_iinc (v := v1 + 1) (lv' := [(1, .int (v1 + 1)), (0, .ref (g.2.2 + 127))]) hx hb dX10_word_29 hl (k := 1) rfl rfl (by decide) rfl (fun ls hl => ?_)
        refine lv_goto (tgt := 2) hx hb dX10_word_32 (by decide) ?_
        exact ih (v1 + 1) h _ _ _ hP hS (lv_sub hl [1, 0] rfl)
      · rw [if_neg c4] at h
        refine lv_aload_n hx hb dX10_word_19 rfl (lv_at hl 0 rfl) ?_
        refine lv_iload_n hx hb dX10_word_20 rfl (lv_at hl 1 rfl) ?_
        obtain ⟨r5, e6, h⟩ := tm_bd_some h
        refine tm_backI (r0 := r5) (M0 := M) (fun _ q => q) (tm_callV (As := [.int v1]) (rest := []) ⟨hx, hb, hml, hown, hts⟩ hK hG hP hS (c_X10_isWord l g A L hD hF M v1 r5 e6) (cwV 1 hts gX10_word_X10_isWord rfl rfl rfl (by decide +kernel) ⟨Nat.le_of_ble_eq_true rfl, Nat.le_of_ble_eq_true rfl⟩) (tm_recv hK hP (hF 127 (by decide)) (ci := 9) rfl (tm_mkX10 (by decide) _)) rfl hl.1 (lv_room (Nat.le_of_ble_eq_true rfl)) dX10_word_21 ⟨Nat.zero_le _, Nat.zero_le _⟩) hS (fun H locs hP hS => ?_)
        refine lv_if_eq (tgt := 29) hx hb dX10_word_24 (by decide) (fun c7 => ?_) (fun c7 => ?_)
        · rw [if_pos c7] at h
          refine lv_iinc (v := v1 + 1) (lv' := [(1, .int (v1 + 1)), (0, .ref (g.2.2 + 127))]) hx hb dX10_word_29 hl (k := 1) rfl rfl (by decide) rfl (fun ls hl => ?_)
          refine lv_goto (tgt := 2) hx hb dX10_word_32 (by decide) ?_
          exact ih (v1 + 1) h _ _ _ hP hS (lv_sub hl [1, 0] rfl)
        · rw [if_neg c7] at h
          refine lv_iload_n hx hb dX10_word_27 rfl (lv_at hl 1 rfl) ?_
          exact tm_iret C0 (by rw [Option.some.inj h]) hP hS dX10_word_28
set_option maxHeartbeats 4000000 in
set_option maxRecDepth 100000 in
theorem c_X10_word (l : Launch) (g : tm_G) (A : Nat → Prop) (L : List Nat) (hD : ∀ M, va_D A (tm_ws g L M)) (hF : ∀ o, tm_all o → o ∈ L) (M : tm_M) (r0 : Int32) (h : f_X10_word M = some r0) : Met l yX10_word wsX10_word { frames := 2, cells := 0, slots := 0, locals := 43 } (tm_PC g A L M [.ref (g.2.2 + 127)]) (tm_QI g A L (r0, M)) 0 0 A := by
  refine tm_start (cc := cX10_word) (nL := 2) (ret := (some .int)) (F := tm_all) (plainFor_of_name (by decide)) rfl (Nat.le_of_ble_eq_true rfl) hD hF (fun p e s m args below meth c ls C0 hP hS hl => ?_)
  have hl : lv_has ls 2 [(0, .ref (g.2.2 + 127))] := hl
  have C0 : tm_C p m c cX10_word 2 s args wsX10_word RX10 meth (some .int) g A L tm_all := C0
  obtain ⟨⟨hx, hb, hml, hown, hts⟩, hr, hlk, hK, hD, hG, hF⟩ := id C0
  unfold f_X10_word at h
  refine lv_iconst (v := 0) hx hb dX10_word_0 (by decide) ?_
  refine lv_istore_n (lv' := [(1, .int 0), (0, .ref (g.2.2 + 127))]) hx hb dX10_word_1 rfl hl (by decide) rfl (fun ls hl => ?_)
  refine w_X10_word_L2 C0 M _ r0 (fun v8 h H locs ls hP hS hl => ?_) 1000 0 h _ _ _ hP hS (lv_sub hl [1, 0] rfl)
  refine lv_iconst (v := (-1)) hx hb dX10_word_35 (by decide) ?_
  exact tm_iret C0 (by rw [Option.some.inj h]) hP hS dX10_word_36
/-! X10_number -/
theorem nX10_number_X10 : ∀ w ∈ wsX100, w ∈ wsX10_number := by decide +kernel
theorem kX10_number_0 : Cond.fieldLink RX10 79 "QuarrelDeskModel" "at" "I" ∈ wsX10_number := by decide +kernel
theorem kX10_number_1 : Cond.fieldLink RX10 76 "QuarrelDeskModel" "behind" "I" ∈ wsX10_number := by decide +kernel
theorem kX10_number_2 : Cond.fieldLink RX10 41 "QuarrelDeskModel" "text" "[I" ∈ wsX10_number := by decide +kernel
def f_X10_number (M : tm_M) (p1 : Int32) (p2 : Int32) : Option (Int32 × tm_M) :=
  (f_X10_next M).bind fun M3 =>
  (f_X10_isDigit M3 (M3 127 16)).bind fun r4 =>
  if r4 = 0 then
    some ((-1), M3)
  else
    if ((M3 127 17) - (M3 127 16)) ≤ 2 then
      (tm_rd M3 138 160 (M3 127 16)).bind fun x8 =>
      (some (x8 - 48)).bind fun x10 =>
      if ((M3 127 17) - (M3 127 16)) = 2 then
        (tm_rd M3 138 160 ((M3 127 16) + 1)).bind fun x15 =>
        (some (((10 * x10) + x15) - 48)).bind fun x17 =>
        (f_X10_in x17 p1 p2).bind fun r18 =>
        if r18 = 0 then
          some ((-1), M3)
        else
          some (x17, M3)
      else
        (f_X10_in x10 p1 p2).bind fun r12 =>
        if r12 = 0 then
          some ((-1), M3)
        else
          some (x10, M3)
    else
      some ((-1), M3)
set_option maxHeartbeats 4000000 in
set_option maxRecDepth 100000 in
theorem c_X10_number (l : Launch) (g : tm_G) (A : Nat → Prop) (L : List Nat) (hD : ∀ M, va_D A (tm_ws g L M)) (hF : ∀ o, tm_all o → o ∈ L) (M : tm_M) (p1 : Int32) (p2 : Int32) (R0 : Int32 × tm_M) (h : f_X10_number M p1 p2 = some R0) : Met l yX10_number wsX10_number { frames := 3, cells := 0, slots := 0, locals := 63 } (tm_PC g A L M [.ref (g.2.2 + 127), .int p1, .int p2]) (tm_QI g A L R0) 0 0 A := by
  refine tm_start (cc := cX10_number) (nL := 4) (ret := (some .int)) (F := tm_all) (plainFor_of_name (by decide)) rfl (Nat.le_of_ble_eq_true rfl) hD hF (fun p e s m args below meth c ls C0 hP hS hl => ?_)
  have hl : lv_has ls 4 [(0, .ref (g.2.2 + 127)), (1, .int p1), (2, .int p2)] := hl
  have C0 : tm_C p m c cX10_number 4 s args wsX10_number RX10 meth (some .int) g A L tm_all := C0
  obtain ⟨⟨hx, hb, hml, hown, hts⟩, hr, hlk, hK, hD, hG, hF⟩ := id C0
  unfold f_X10_number at h
  refine lv_aload_n hx hb dX10_number_0 rfl (lv_at hl 0 rfl) ?_
  obtain ⟨M3, e2, h⟩ := tm_bd_some h
  refine tm_backV (M0 := M3) (fun _ q => q) (tm_callV (As := []) (rest := []) ⟨hx, hb, hml, hown, hts⟩ hK hG hP hS (c_X10_next l g A L hD hF M M3 e2) (cwV 0 hts gX10_number_X10_next rfl rfl rfl (by decide +kernel) ⟨Nat.le_of_ble_eq_true rfl, Nat.le_of_ble_eq_true rfl⟩) (tm_recv hK hP (hF 127 (by decide)) (ci := 9) rfl (tm_mkX10 (by decide) _)) rfl hl.1 (lv_room (Nat.le_of_ble_eq_true rfl)) dX10_number_1 ⟨Nat.zero_le _, Nat.zero_le _⟩) hS (fun H locs hP hS => ?_)
  refine lv_aload_n hx hb dX10_number_4 rfl (lv_at hl 0 rfl) ?_
  refine lv_aload_n hx hb dX10_number_5 rfl (lv_at hl 0 rfl) ?_
  refine tm_get (C := RX10) (T := TX10) (N := 23) (v := .int (M3 127 16)) hx hb hts nX10_number_X10 hown hK hP (hF 127 (by decide)) (tm_mkX10 (by decide) _) rfl 16 (by decide) (hts _ kX10_number_0) rfl dX10_number_6 ?_
  obtain ⟨r4, e5, h⟩ := tm_bd_some h
  refine tm_backI (r0 := r4) (M0 := M3) (fun _ q => q) (tm_callV (As := [.int (M3 127 16)]) (rest := []) ⟨hx, hb, hml, hown, hts⟩ hK hG hP hS (c_X10_isDigit l g A L hD hF M3 (M3 127 16) r4 e5) (cwV 1 hts gX10_number_X10_isDigit rfl rfl rfl (by decide +kernel) ⟨Nat.le_of_ble_eq_true rfl, Nat.le_of_ble_eq_true rfl⟩) (tm_recv hK hP (hF 127 (by decide)) (ci := 9) rfl (tm_mkX10 (by decide) _)) rfl hl.1 (lv_room (Nat.le_of_ble_eq_true rfl)) dX10_number_9 ⟨Nat.zero_le _, Nat.zero_le _⟩) hS (fun H locs hP hS => ?_)
  refine lv_if_eq (tgt := 28) hx hb dX10_number_12 (by decide) (fun c6 => ?_) (fun c6 => ?_)
  · rw [if_pos c6] at h
    refine lv_iconst (v := (-1)) hx hb dX10_number_28 (by decide) ?_
    exact tm_iret C0 (Option.some.inj h) hP hS dX10_number_29
  · rw [if_neg c6] at h
    refine lv_aload_n hx hb dX10_number_15 rfl (lv_at hl 0 rfl) ?_
    refine tm_get (C := RX10) (T := TX10) (N := 23) (v := .int (M3 127 17)) hx hb hts nX10_number_X10 hown hK hP (hF 127 (by decide)) (tm_mkX10 (by decide) _) rfl 17 (by decide) (hts _ kX10_number_1) rfl dX10_number_16 ?_
    refine lv_aload_n hx hb dX10_number_19 rfl (lv_at hl 0 rfl) ?_
    refine tm_get (C := RX10) (T := TX10) (N := 23) (v := .int (M3 127 16)) hx hb hts nX10_number_X10 hown hK hP (hF 127 (by decide)) (tm_mkX10 (by decide) _) rfl 16 (by decide) (hts _ kX10_number_0) rfl dX10_number_20 ?_
    refine lv_isub hx hb dX10_number_23 ?_
    refine lv_iconst (v := 2) hx hb dX10_number_24 (by decide) ?_
    refine lv_icmp_le (tgt := 30) hx hb dX10_number_25 (by decide) (fun c7 => ?_) (fun c7 => ?_)
    · rw [if_pos c7] at h
      refine lv_aload_n hx hb dX10_number_30 rfl (lv_at hl 0 rfl) ?_
      refine tm_get (C := RX10) (T := TX10) (N := 23) (v := .ref (g.2.2 + 138)) hx hb hts nX10_number_X10 hown hK hP (hF 127 (by decide)) (tm_mkX10 (by decide) _) rfl 12 (by decide) (hts _ kX10_number_2) rfl dX10_number_31 ?_
      refine lv_aload_n hx hb dX10_number_34 rfl (lv_at hl 0 rfl) ?_
      refine tm_get (C := RX10) (T := TX10) (N := 23) (v := .int (M3 127 16)) hx hb hts nX10_number_X10 hown hK hP (hF 127 (by decide)) (tm_mkX10 (by decide) _) rfl 16 (by decide) (hts _ kX10_number_0) rfl dX10_number_35 ?_
      obtain ⟨x8, e9, h⟩ := tm_bd_some h
      refine tm_iald hx hb hK hP (hF 138 (by decide)) (tm_mkI (n := 160) (by decide) (by decide)) e9 dX10_number_38 ?_
      refine lv_bipush (v := 48) hx hb dX10_number_39 (by decide) ?_
      refine lv_isub hx hb dX10_number_41 ?_
      refine tm_nam h (fun x10 h => ?_)
      refine lv_istore_n (lv' := [(3, .int x10), (0, .ref (g.2.2 + 127)), (1, .int p1), (2, .int p2)]) hx hb dX10_number_42 rfl hl (by decide) rfl (fun ls hl => ?_)
      refine lv_aload_n hx hb dX10_number_43 rfl (lv_at hl 1 rfl) ?_
      refine tm_get (C := RX10) (T := TX10) (N := 23) (v := .int (M3 127 17)) hx hb hts nX10_number_X10 hown hK hP (hF 127 (by decide)) (tm_mkX10 (by decide) _) rfl 17 (by decide) (hts _ kX10_number_1) rfl dX10_number_44 ?_
      refine lv_aload_n hx hb dX10_number_47 rfl (lv_at hl 1 rfl) ?_
      refine tm_get (C := RX10) (T := TX10) (N := 23) (v := .int (M3 127 16)) hx hb hts nX10_number_X10 hown hK hP (hF 127 (by decide)) (tm_mkX10 (by decide) _) rfl 16 (by decide) (hts _ kX10_number_0) rfl dX10_number_48 ?_
      refine lv_isub hx hb dX10_number_51 ?_
      refine lv_iconst (v := 2) hx hb dX10_number_52 (by decide) ?_
      refine lv_icmp_ne (tgt := 78) hx hb dX10_number_53 (by decide) (fun c11 => ?_) (fun c11 => ?_)
      · rw [if_neg c11] at h
        refine lv_iload_n hx hb dX10_number_78 rfl (lv_at hl 0 rfl) ?_
        refine lv_istore_n (lv' := [(3, .int x10), (0, .ref (g.2.2 + 127)), (1, .int p1), (2, .int p2)]) hx hb dX10_number_79 rfl hl (by decide) rfl (fun ls hl => ?_)
        refine lv_iload_n hx hb dX10_number_80 rfl (lv_at hl 0 rfl) ?_
        refine lv_iload_n hx hb dX10_number_81 rfl (lv_at hl 2 rfl) ?_
        refine lv_iload_n hx hb dX10_number_82 rfl (lv_at hl 3 rfl) ?_
        obtain ⟨r12, e13, h⟩ := tm_bd_some h
        refine tm_backI (r0 := r12) (M0 := M3) (fun _ q => q) (tm_callS (As := [.int x10, .int p1, .int p2]) (rest := []) ⟨hx, hb, hml, hown, hts⟩ hK hG hP hS (c_X10_in l g A L hD hF M3 x10 p1 p2 r12 e13) (va_cwS 3 hts gX10_number_X10_in rfl rfl rfl (by decide +kernel) ⟨Nat.le_of_ble_eq_true rfl, Nat.le_of_ble_eq_true rfl⟩) rfl hl.1 (lv_room (Nat.le_of_ble_eq_true rfl)) dX10_number_83 ⟨Nat.zero_le _, Nat.zero_le _⟩) hS (fun H locs hP hS => ?_)
        refine lv_if_eq (tgt := 93) hx hb dX10_number_86 (by decide) (fun c14 => ?_) (fun c14 => ?_)
        · rw [if_pos c14] at h
          refine lv_iconst (v := (-1)) hx hb dX10_number_93 (by decide) ?_
          exact tm_iret C0 (Option.some.inj h) hP hS dX10_number_94
        · rw [if_neg c14] at h
          refine lv_iload_n hx hb dX10_number_89 rfl (lv_at hl 0 rfl) ?_
          refine lv_goto (tgt := 94) hx hb dX10_number_90 (by decide) ?_
          exact tm_iret C0 (Option.some.inj h) hP hS dX10_number_94
      · rw [if_pos c11] at h
        refine lv_bipush (v := 10) hx hb dX10_number_56 (by decide) ?_
        refine lv_iload_n hx hb dX10_number_58 rfl (lv_at hl 0 rfl) ?_
        refine lv_imul hx hb dX10_number_59 ?_
        refine lv_aload_n hx hb dX10_number_60 rfl (lv_at hl 1 rfl) ?_
        refine tm_get (C := RX10) (T := TX10) (N := 23) (v := .ref (g.2.2 + 138)) hx hb hts nX10_number_X10 hown hK hP (hF 127 (by decide)) (tm_mkX10 (by decide) _) rfl 12 (by decide) (hts _ kX10_number_2) rfl dX10_number_61 ?_
        refine lv_aload_n hx hb dX10_number_64 rfl (lv_at hl 1 rfl) ?_
        refine tm_get (C := RX10) (T := TX10) (N := 23) (v := .int (M3 127 16)) hx hb hts nX10_number_X10 hown hK hP (hF 127 (by decide)) (tm_mkX10 (by decide) _) rfl 16 (by decide) (hts _ kX10_number_0) rfl dX10_number_65 ?_
        refine lv_iconst (v := 1) hx hb dX10_number_68 (by decide) ?_
        refine lv_iadd hx hb dX10_number_69 ?_
        obtain ⟨x15, e16, h⟩ := tm_bd_some h
        refine tm_iald hx hb hK hP (hF 138 (by decide)) (tm_mkI (n := 160) (by decide) (by decide)) e16 dX10_number_70 ?_
        refine lv_iadd hx hb dX10_number_71 ?_
        refine lv_bipush (v := 48) hx hb dX10_number_72 (by decide) ?_
        refine lv_isub hx hb dX10_number_74 ?_
        refine lv_goto (tgt := 79) hx hb dX10_number_75 (by decide) ?_
        refine tm_nam h (fun x17 h => ?_)
        refine lv_istore_n (lv' := [(3, .int x17), (0, .ref (g.2.2 + 127)), (1, .int p1), (2, .int p2)]) hx hb dX10_number_79 rfl hl (by decide) rfl (fun ls hl => ?_)
        refine lv_iload_n hx hb dX10_number_80 rfl (lv_at hl 0 rfl) ?_
        refine lv_iload_n hx hb dX10_number_81 rfl (lv_at hl 2 rfl) ?_
        refine lv_iload_n hx hb dX10_number_82 rfl (lv_at hl 3 rfl) ?_
        obtain ⟨r18, e19, h⟩ := tm_bd_some h
        refine tm_backI (r0 := r18) (M0 := M3) (fun _ q => q) (tm_callS (As := [.int x17, .int p1, .int p2]) (rest := []) ⟨hx, hb, hml, hown, hts⟩ hK hG hP hS (c_X10_in l g A L hD hF M3 x17 p1 p2 r18 e19) (va_cwS 3 hts gX10_number_X10_in rfl rfl rfl (by decide +kernel) ⟨Nat.le_of_ble_eq_true rfl, Nat.le_of_ble_eq_true rfl⟩) rfl hl.1 (lv_room (Nat.le_of_ble_eq_true rfl)) dX10_number_83 ⟨Nat.zero_le _, Nat.zero_le _⟩) hS (fun H locs hP hS => ?_)
        refine lv_if_eq (tgt := 93) hx hb dX10_number_86 (by decide) (fun c20 => ?_) (fun c20 => ?_)
        · rw [if_pos c20] at h
          refine lv_iconst (v := (-1)) hx hb dX10_number_93 (by decide) ?_
          exact tm_iret C0 (Option.some.inj h) hP hS dX10_number_94
        · rw [if_neg c20] at h
          refine lv_iload_n hx hb dX10_number_89 rfl (lv_at hl 0 rfl) ?_
          refine lv_goto (tgt := 94) hx hb dX10_number_90 (by decide) ?_
          exact tm_iret C0 (Option.some.inj h) hP hS dX10_number_94
    · rw [if_neg c7] at h
      refine lv_iconst (v := (-1)) hx hb dX10_number_28 (by decide) ?_
      exact tm_iret C0 (Option.some.inj h) hP hS dX10_number_29
