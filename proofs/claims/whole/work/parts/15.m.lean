/-! X10_level -/
theorem nX10_level_X10 : ∀ w ∈ wsX100, w ∈ wsX10_level := by decide +kernel
theorem kX10_level_0 : Cond.fieldLink RX10 22 "QuarrelDeskModel" "row" "[I" ∈ wsX10_level := by decide +kernel
def f_X10_level_L37 (k : Int32 → tm_M → Option (Int32 × tm_M)) (w1 : Int32) (w2 : Int32) : Nat → Int32 → tm_M → Option (Int32 × tm_M)
  | 0, _, _ => none
  | n + 1, v3, M =>
    if w1 ≤ v3 then
      k v3 M
    else
      (f_X10_pass M 616).bind fun r11 =>
      f_X10_level_L37 k w1 w2 n (v3 + 1) r11.2
def f_X10_level_L15 (k : Int32 → tm_M → Option (Int32 × tm_M)) (w1 : Int32) : Nat → Int32 → tm_M → Option (Int32 × tm_M)
  | 0, _, _ => none
  | n + 1, v2, M =>
    if 51 ≤ v2 then
      k v2 M
    else
      (f_X10_layTried M 0).bind fun M7 =>
      (tm_wr M7 132 672 619 v2).bind fun M8 =>
      f_X10_level_L37 (fun v13 M14 =>
        (f_X10_balanceOf M14 616).bind fun r15 =>
        (f_X10_balanceOf M14 0).bind fun r17 =>
        if r15 < r17 then
          f_X10_level_L15 k w1 n (v2 + 1) M14
        else
          some (v2, M14)) w1 v2 1000 0 M8
def f_X10_level (M : tm_M) (p1 : Int32) : Option (Int32 × tm_M) :=
  (f_X10_in p1 1 60).bind fun r1 =>
  if r1 = 0 then
    some ((-3), M)
  else
    f_X10_level_L15 (fun v20 M21 =>
      some ((-1), M21)) p1 1000 0 M
set_option maxHeartbeats 4000000 in
set_option maxRecDepth 100000 in
theorem w_X10_level_L37 {p : Program} {l : Launch} {e : Env} {s : State} {m : MethodId} {args : Array Value} {below : List Frame} {meth : Method} {c : Code} {g : tm_G} {A : Nat → Prop} {L : List Nat} (C0 : tm_C p m c cX10_level 4 s args wsX10_level RX10 meth (some .int) g A L tm_all) (w1 : Int32) (w2 : Int32) (k : Int32 → tm_M → Option (Int32 × tm_M)) (R0 : Int32 × tm_M) (hk : ∀ (v3 : Int32) (M : tm_M), k v3 M = some R0 → ∀ (H : Heap) (locs : List Loc) (ls : Array Slot), va_P g.1 vwCl (tm_ws g L M) H → va_S A s.heap H locs → lv_has ls 4 [(0, .ref (g.2.2 + 127)), (1, .int w1), (2, .int w2), (3, .int v3)] → W p l e { frames := 5, cells := 0, slots := 0, locals := 115 } s m args below meth c H locs 0 0 (MQ below (tm_QI g A L R0) args s 0 0 A) (F0 m 56 ls [])) : ∀ (n : Nat) (v3 : Int32) (M : tm_M), f_X10_level_L37 k w1 w2 n v3 M = some R0 → ∀ (H : Heap) (locs : List Loc) (ls : Array Slot), va_P g.1 vwCl (tm_ws g L M) H → va_S A s.heap H locs → lv_has ls 4 [(0, .ref (g.2.2 + 127)), (1, .int w1), (2, .int w2), (3, .int v3)] → W p l e { frames := 5, cells := 0, slots := 0, locals := 115 } s m args below meth c H locs 0 0 (MQ below (tm_QI g A L R0) args s 0 0 A) (F0 m 37 ls []) := by
  obtain ⟨⟨hx, hb, hml, hown, hts⟩, hr, hlk, hK, hD, hG, hF⟩ := id C0
  intro n
  induction n with
  | zero =>
    intro v3 M h
    simp [f_X10_level_L37] at h
  | succ n ih =>
    intro v3 M h H locs ls hP hS hl
    rw [f_X10_level_L37] at h
    refine lv_iload_n hx hb dX10_level_37 rfl (lv_at hl 3 rfl) ?_
    refine lv_iload_n hx hb dX10_level_38 rfl (lv_at hl 1 rfl) ?_
    refine lv_icmp_ge (tgt := 56) hx hb dX10_level_39 (by decide) (fun c10 => ?_) (fun c10 => ?_)
    · rw [if_pos c10] at h
      exact hk v3 M h _ _ _ hP hS (lv_sub hl [0, 1, 2, 3] rfl)
    · rw [if_neg c10] at h
      refine lv_aload_n hx hb dX10_level_42 rfl (lv_at hl 0 rfl) ?_
      refine lv_sipush (v := 616) hx hb dX10_level_43 (by decide) ?_
      obtain ⟨r11, e12, h⟩ := tm_bd_some h
      refine tm_backI (r0 := r11.1) (M0 := r11.2) (fun _ q => q) (tm_callV (As := [.int 616]) (rest := []) ⟨hx, hb, hml, hown, hts⟩ hK hG hP hS (c_X10_pass l g A L hD hF M 616 r11 e12) (cwV 1 hts gX10_level_X10_pass rfl rfl rfl (by decide +kernel) ⟨Nat.le_of_ble_eq_true rfl, Nat.le_of_ble_eq_true rfl⟩) (tm_recv hK hP (hF 127 (by decide)) (ci := 9) rfl (tm_mkX10 (by decide) _)) rfl hl.1 (lv_room (Nat.le_of_ble_eq_true rfl)) dX10_level_46 ⟨Nat.zero_le _, Nat.zero_le _⟩) hS (fun H locs hP hS => ?_)
      refine lv_pop hx hb dX10_level_49 rfl ?_
      refine lv_iinc (v := v3 + 1) (lv' := [(3, .int (v3 + 1)), (0, .ref (g.2.2 + 127)), (1, .int w1), (2, .int w2)]) hx hb dX10_level_50 hl (k := 3) rfl rfl (by decide) rfl (fun ls hl => ?_)
      refine lv_goto (tgt := 37) hx hb dX10_level_53 (by decide) ?_
      exact ih (v3 + 1) r11.2 h _ _ _ hP hS (lv_sub hl [1, 2, 3, 0] rfl)
set_option maxHeartbeats 4000000 in
set_option maxRecDepth 100000 in
theorem w_X10_level_L15 {p : Program} {l : Launch} {e : Env} {s : State} {m : MethodId} {args : Array Value} {below : List Frame} {meth : Method} {c : Code} {g : tm_G} {A : Nat → Prop} {L : List Nat} (C0 : tm_C p m c cX10_level 4 s args wsX10_level RX10 meth (some .int) g A L tm_all) (w1 : Int32) (k : Int32 → tm_M → Option (Int32 × tm_M)) (R0 : Int32 × tm_M) (hk : ∀ (v2 : Int32) (M : tm_M), k v2 M = some R0 → ∀ (H : Heap) (locs : List Loc) (ls : Array Slot), va_P g.1 vwCl (tm_ws g L M) H → va_S A s.heap H locs → lv_has ls 4 [(0, .ref (g.2.2 + 127)), (1, .int w1), (2, .int v2)] → W p l e { frames := 5, cells := 0, slots := 0, locals := 115 } s m args below meth c H locs 0 0 (MQ below (tm_QI g A L R0) args s 0 0 A) (F0 m 79 ls [])) : ∀ (n : Nat) (v2 : Int32) (M : tm_M), f_X10_level_L15 k w1 n v2 M = some R0 → ∀ (H : Heap) (locs : List Loc) (ls : Array Slot), va_P g.1 vwCl (tm_ws g L M) H → va_S A s.heap H locs → lv_has ls 4 [(0, .ref (g.2.2 + 127)), (1, .int w1), (2, .int v2)] → W p l e { frames := 5, cells := 0, slots := 0, locals := 115 } s m args below meth c H locs 0 0 (MQ below (tm_QI g A L R0) args s 0 0 A) (F0 m 15 ls []) := by
  obtain ⟨⟨hx, hb, hml, hown, hts⟩, hr, hlk, hK, hD, hG, hF⟩ := id C0
  intro n
  induction n with
  | zero =>
    intro v2 M h
    simp [f_X10_level_L15] at h
  | succ n ih =>
    intro v2 M h H locs ls hP hS hl
    rw [f_X10_level_L15] at h
    refine lv_iload_n hx hb dX10_level_15 rfl (lv_at hl 2 rfl) ?_
    refine lv_bipush (v := 51) hx hb dX10_level_16 (by decide) ?_
    refine lv_icmp_ge (tgt := 79) hx hb dX10_level_18 (by decide) (fun c4 => ?_) (fun c4 => ?_)
    · rw [if_pos c4] at h
      exact hk v2 M h _ _ _ hP hS (lv_sub hl [0, 1, 2] rfl)
    · rw [if_neg c4] at h
      refine lv_aload_n hx hb dX10_level_21 rfl (lv_at hl 0 rfl) ?_
      refine lv_iconst (v := 0) hx hb dX10_level_22 (by decide) ?_
      obtain ⟨M7, e6, h⟩ := tm_bd_some h
      refine tm_backV (M0 := M7) (fun _ q => q) (tm_callV (As := [.int 0]) (rest := []) ⟨hx, hb, hml, hown, hts⟩ hK hG hP hS (c_X10_layTried l g A L hD hF M 0 M7 e6) (cwV 1 hts gX10_level_X10_layTried rfl rfl rfl (by decide +kernel) ⟨Nat.le_of_ble_eq_true rfl, Nat.le_of_ble_eq_true rfl⟩) (tm_recv hK hP (hF 127 (by decide)) (ci := 9) rfl (tm_mkX10 (by decide) _)) rfl hl.1 (lv_room (Nat.le_of_ble_eq_true rfl)) dX10_level_23 ⟨Nat.zero_le _, Nat.zero_le _⟩) hS (fun H locs hP hS => ?_)
      refine lv_aload_n hx hb dX10_level_26 rfl (lv_at hl 0 rfl) ?_
      refine tm_get (C := RX10) (T := TX10) (N := 23) (v := .ref (g.2.2 + 132)) hx hb hts nX10_level_X10 hown hK hP (hF 127 (by decide)) (tm_mkX10 (by decide) _) rfl 4 (by decide) (hts _ kX10_level_0) rfl dX10_level_27 ?_
      refine lv_sipush (v := 619) hx hb dX10_level_30 (by decide) ?_
      refine lv_iload_n hx hb dX10_level_33 rfl (lv_at hl 2 rfl) ?_
      obtain ⟨M8, e9, h⟩ := tm_bd_some h
      refine tm_iast hx hb hK hP hD hS (hF 132 (by decide)) (tm_mkI (n := 672) (by decide) (by decide)) e9 dX10_level_34 (fun H locs hP hS => ?_)
      refine lv_iconst (v := 0) hx hb dX10_level_35 (by decide) ?_
      refine lv_istore_n (lv' := [(3, .int 0), (0, .ref (g.2.2 + 127)), (1, .int w1), (2, .int v2)]) hx hb dX10_level_36 rfl hl (by decide) rfl (fun ls hl => ?_)
      refine w_X10_level_L37 C0 w1 v2 _ R0 (fun v13 M14 h H locs ls hP hS hl => ?_) 1000 0 M8 h _ _ _ hP hS (lv_sub hl [1, 2, 3, 0] rfl)
      refine lv_aload_n hx hb dX10_level_56 rfl (lv_at hl 0 rfl) ?_
      refine lv_sipush (v := 616) hx hb dX10_level_57 (by decide) ?_
      obtain ⟨r15, e16, h⟩ := tm_bd_some h
      refine tm_backI (r0 := r15) (M0 := M14) (fun _ q => q) (tm_callV (As := [.int 616]) (rest := []) ⟨hx, hb, hml, hown, hts⟩ hK hG hP hS (c_X10_balanceOf l g A L hD hF M14 616 r15 e16) (cwV 1 hts gX10_level_X10_balanceOf rfl rfl rfl (by decide +kernel) ⟨Nat.le_of_ble_eq_true rfl, Nat.le_of_ble_eq_true rfl⟩) (tm_recv hK hP (hF 127 (by decide)) (ci := 9) rfl (tm_mkX10 (by decide) _)) rfl hl.1 (lv_room (Nat.le_of_ble_eq_true rfl)) dX10_level_60 ⟨Nat.zero_le _, Nat.zero_le _⟩) hS (fun H locs hP hS => ?_)
      refine lv_aload_n hx hb dX10_level_63 rfl (lv_at hl 0 rfl) ?_
      refine lv_iconst (v := 0) hx hb dX10_level_64 (by decide) ?_
      obtain ⟨r17, e18, h⟩ := tm_bd_some h
      refine tm_backI (r0 := r17) (M0 := M14) (fun _ q => q) (tm_callV (As := [.int 0]) (rest := [.int r15]) ⟨hx, hb, hml, hown, hts⟩ hK hG hP hS (c_X10_balanceOf l g A L hD hF M14 0 r17 e18) (cwV 1 hts gX10_level_X10_balanceOf rfl rfl rfl (by decide +kernel) ⟨Nat.le_of_ble_eq_true rfl, Nat.le_of_ble_eq_true rfl⟩) (tm_recv hK hP (hF 127 (by decide)) (ci := 9) rfl (tm_mkX10 (by decide) _)) rfl hl.1 (lv_room (Nat.le_of_ble_eq_true rfl)) dX10_level_65 ⟨Nat.zero_le _, Nat.zero_le _⟩) hS (fun H locs hP hS => ?_)
      refine lv_icmp_lt (tgt := 73) hx hb dX10_level_68 (by decide) (fun c19 => ?_) (fun c19 => ?_)
      · rw [if_pos c19] at h
        refine lv_iinc (v := v2 + 1) (lv' := [(2, .int (v2 + 1)), (0, .ref (g.2.2 + 127)), (1, .int w1), (3, .int v13)]) hx hb dX10_level_73 hl (k := 2) rfl rfl (by decide) rfl (fun ls hl => ?_)
        refine lv_goto (tgt := 15) hx hb dX10_level_76 (by decide) ?_
        exact ih (v2 + 1) M14 h _ _ _ hP hS (lv_sub hl [1, 2, 0] rfl)
      · rw [if_neg c19] at h
        refine lv_iload_n hx hb dX10_level_71 rfl (lv_at hl 2 rfl) ?_
        exact tm_iret C0 (Option.some.inj h) hP hS dX10_level_72
set_option maxHeartbeats 4000000 in
set_option maxRecDepth 100000 in
theorem c_X10_level (l : Launch) (g : tm_G) (A : Nat → Prop) (L : List Nat) (hD : ∀ M, va_D A (tm_ws g L M)) (hF : ∀ o, tm_all o → o ∈ L) (M : tm_M) (p1 : Int32) (R0 : Int32 × tm_M) (h : f_X10_level M p1 = some R0) : Met l yX10_level wsX10_level { frames := 5, cells := 0, slots := 0, locals := 115 } (tm_PC g A L M [.ref (g.2.2 + 127), .int p1]) (tm_QI g A L R0) 0 0 A := by
  refine tm_start (cc := cX10_level) (nL := 4) (ret := (some .int)) (F := tm_all) (plainFor_of_name (by decide)) rfl (Nat.le_of_ble_eq_true rfl) hD hF (fun p e s m args below meth c ls C0 hP hS hl => ?_)
  have hl : lv_has ls 4 [(0, .ref (g.2.2 + 127)), (1, .int p1)] := hl
  have C0 : tm_C p m c cX10_level 4 s args wsX10_level RX10 meth (some .int) g A L tm_all := C0
  obtain ⟨⟨hx, hb, hml, hown, hts⟩, hr, hlk, hK, hD, hG, hF⟩ := id C0
  unfold f_X10_level at h
  refine lv_iload_n hx hb dX10_level_0 rfl (lv_at hl 1 rfl) ?_
  refine lv_iconst (v := 1) hx hb dX10_level_1 (by decide) ?_
  refine lv_bipush (v := 60) hx hb dX10_level_2 (by decide) ?_
  obtain ⟨r1, e2, h⟩ := tm_bd_some h
  refine tm_backI (r0 := r1) (M0 := M) (fun _ q => q) (tm_callS (As := [.int p1, .int 1, .int 60]) (rest := []) ⟨hx, hb, hml, hown, hts⟩ hK hG hP hS (c_X10_in l g A L hD hF M p1 1 60 r1 e2) (va_cwS 3 hts gX10_level_X10_in rfl rfl rfl (by decide +kernel) ⟨Nat.le_of_ble_eq_true rfl, Nat.le_of_ble_eq_true rfl⟩) rfl hl.1 (lv_room (Nat.le_of_ble_eq_true rfl)) dX10_level_4 ⟨Nat.zero_le _, Nat.zero_le _⟩) hS (fun H locs hP hS => ?_)
  refine lv_if_ne (tgt := 13) hx hb dX10_level_7 (by decide) (fun c3 => ?_) (fun c3 => ?_)
  · rw [if_neg c3] at h
    refine lv_iconst (v := 0) hx hb dX10_level_13 (by decide) ?_
    refine lv_istore_n (lv' := [(2, .int 0), (0, .ref (g.2.2 + 127)), (1, .int p1)]) hx hb dX10_level_14 rfl hl (by decide) rfl (fun ls hl => ?_)
    refine w_X10_level_L15 C0 p1 _ R0 (fun v20 M21 h H locs ls hP hS hl => ?_) 1000 0 M h _ _ _ hP hS (lv_sub hl [1, 2, 0] rfl)
    refine lv_iconst (v := (-1)) hx hb dX10_level_79 (by decide) ?_
    exact tm_iret C0 (Option.some.inj h) hP hS dX10_level_80
  · rw [if_pos c3] at h
    refine lv_bipush (v := (-3)) hx hb dX10_level_10 (by decide) ?_
    exact tm_iret C0 (Option.some.inj h) hP hS dX10_level_12
/-! X10_claimedBy -/
def f_X10_claimedBy_L8 (k : Int32 → tm_M → Option (Int32 × tm_M)) (w1 : Int32) (w2 : Int32) (w3 : Int32) : Nat → Int32 → tm_M → Option (Int32 × tm_M)
  | 0, _, _ => none
  | n + 1, v4, M =>
    if w3 ≤ v4 then
      k v4 M
    else
      if v4 = w2 then
        (f_X10_doKiss M 616 w1).bind fun M10 =>
        (f_X10_pass M10 616).bind fun r11 =>
        f_X10_claimedBy_L8 k w1 w2 w3 n (v4 + 1) r11.2
      else
        (f_X10_pass M 616).bind fun r6 =>
        f_X10_claimedBy_L8 k w1 w2 w3 n (v4 + 1) r6.2
def f_X10_claimedBy (M : tm_M) (p1 : Int32) (p2 : Int32) (p3 : Int32) : Option (Int32 × tm_M) :=
  (f_X10_layTried M 0).bind fun M3 =>
  f_X10_claimedBy_L8 (fun v13 M14 =>
    (f_X10_sumOf M14 616 38).bind fun r15 =>
    some (r15, M14)) p1 p2 p3 1000 0 M3
set_option maxHeartbeats 4000000 in
set_option maxRecDepth 100000 in
theorem w_X10_claimedBy_L8 {p : Program} {l : Launch} {e : Env} {s : State} {m : MethodId} {args : Array Value} {below : List Frame} {meth : Method} {c : Code} {g : tm_G} {A : Nat → Prop} {L : List Nat} (C0 : tm_C p m c cX10_claimedBy 5 s args wsX10_claimedBy RX10 meth (some .int) g A L tm_all) (w1 : Int32) (w2 : Int32) (w3 : Int32) (k : Int32 → tm_M → Option (Int32 × tm_M)) (R0 : Int32 × tm_M) (hk : ∀ (v4 : Int32) (M : tm_M), k v4 M = some R0 → ∀ (H : Heap) (locs : List Loc) (ls : Array Slot), va_P g.1 vwCl (tm_ws g L M) H → va_S A s.heap H locs → lv_has ls 5 [(0, .ref (g.2.2 + 127)), (1, .int w1), (2, .int w2), (3, .int w3), (4, .int v4)] → W p l e { frames := 5, cells := 0, slots := 0, locals := 115 } s m args below meth c H locs 0 0 (MQ below (tm_QI g A L R0) args s 0 0 A) (F0 m 42 ls [])) : ∀ (n : Nat) (v4 : Int32) (M : tm_M), f_X10_claimedBy_L8 k w1 w2 w3 n v4 M = some R0 → ∀ (H : Heap) (locs : List Loc) (ls : Array Slot), va_P g.1 vwCl (tm_ws g L M) H → va_S A s.heap H locs → lv_has ls 5 [(0, .ref (g.2.2 + 127)), (1, .int w1), (2, .int w2), (3, .int w3), (4, .int v4)] → W p l e { frames := 5, cells := 0, slots := 0, locals := 115 } s m args below meth c H locs 0 0 (MQ below (tm_QI g A L R0) args s 0 0 A) (F0 m 8 ls []) := by
  obtain ⟨⟨hx, hb, hml, hown, hts⟩, hr, hlk, hK, hD, hG, hF⟩ := id C0
  intro n
  induction n with
  | zero =>
    intro v4 M h
    simp [f_X10_claimedBy_L8] at h
  | succ n ih =>
    intro v4 M h H locs ls hP hS hl
    rw [f_X10_claimedBy_L8] at h
    refine lv_iload hx hb dX10_claimedBy_8 (lv_at hl 4 rfl) ?_
    refine lv_iload_n hx hb dX10_claimedBy_10 rfl (lv_at hl 3 rfl) ?_
    refine lv_icmp_ge (tgt := 42) hx hb dX10_claimedBy_11 (by decide) (fun c4 => ?_) (fun c4 => ?_)
    · rw [if_pos c4] at h
      exact hk v4 M h _ _ _ hP hS (lv_sub hl [0, 1, 2, 3, 4] rfl)
    · rw [if_neg c4] at h
      refine lv_iload hx hb dX10_claimedBy_14 (lv_at hl 4 rfl) ?_
      refine lv_iload_n hx hb dX10_claimedBy_16 rfl (lv_at hl 2 rfl) ?_
      refine lv_icmp_ne (tgt := 28) hx hb dX10_claimedBy_17 (by decide) (fun c5 => ?_) (fun c5 => ?_)
      · rw [if_neg c5] at h
        refine lv_aload_n hx hb dX10_claimedBy_28 rfl (lv_at hl 0 rfl) ?_
        refine lv_sipush (v := 616) hx hb dX10_claimedBy_29 (by decide) ?_
        obtain ⟨r6, e7, h⟩ := tm_bd_some h
        refine tm_backI (r0 := r6.1) (M0 := r6.2) (fun _ q => q) (tm_callV (As := [.int 616]) (rest := []) ⟨hx, hb, hml, hown, hts⟩ hK hG hP hS (c_X10_pass l g A L hD hF M 616 r6 e7) (cwV 1 hts gX10_claimedBy_X10_pass rfl rfl rfl (by decide +kernel) ⟨Nat.le_of_ble_eq_true rfl, Nat.le_of_ble_eq_true rfl⟩) (tm_recv hK hP (hF 127 (by decide)) (ci := 9) rfl (tm_mkX10 (by decide) _)) rfl hl.1 (lv_room (Nat.le_of_ble_eq_true rfl)) dX10_claimedBy_32 ⟨Nat.zero_le _, Nat.zero_le _⟩) hS (fun H locs hP hS => ?_)
        refine lv_pop hx hb dX10_claimedBy_35 rfl ?_
        refine lv_iinc (v := v4 + 1) (lv' := [(4, .int (v4 + 1)), (0, .ref (g.2.2 + 127)), (1, .int w1), (2, .int w2), (3, .int w3)]) hx hb dX10_claimedBy_36 hl (k := 4) rfl rfl (by decide) rfl (fun ls hl => ?_)
        refine lv_goto (tgt := 8) hx hb dX10_claimedBy_39 (by decide) ?_
        exact ih (v4 + 1) r6.2 h _ _ _ hP hS (lv_sub hl [1, 2, 3, 4, 0] rfl)
      · rw [if_pos c5] at h
        refine lv_aload_n hx hb dX10_claimedBy_20 rfl (lv_at hl 0 rfl) ?_
        refine lv_sipush (v := 616) hx hb dX10_claimedBy_21 (by decide) ?_
        refine lv_iload_n hx hb dX10_claimedBy_24 rfl (lv_at hl 1 rfl) ?_
        obtain ⟨M10, e9, h⟩ := tm_bd_some h
        refine tm_backV (M0 := M10) (fun _ q => q) (tm_callV (As := [.int 616, .int w1]) (rest := []) ⟨hx, hb, hml, hown, hts⟩ hK hG hP hS (c_X10_doKiss l g A L hD hF M 616 w1 M10 e9) (cwV 2 hts gX10_claimedBy_X10_doKiss rfl rfl rfl (by decide +kernel) ⟨Nat.le_of_ble_eq_true rfl, Nat.le_of_ble_eq_true rfl⟩) (tm_recv hK hP (hF 127 (by decide)) (ci := 9) rfl (tm_mkX10 (by decide) _)) rfl hl.1 (lv_room (Nat.le_of_ble_eq_true rfl)) dX10_claimedBy_25 ⟨Nat.zero_le _, Nat.zero_le _⟩) hS (fun H locs hP hS => ?_)
        refine lv_aload_n hx hb dX10_claimedBy_28 rfl (lv_at hl 0 rfl) ?_
        refine lv_sipush (v := 616) hx hb dX10_claimedBy_29 (by decide) ?_
        obtain ⟨r11, e12, h⟩ := tm_bd_some h
        refine tm_backI (r0 := r11.1) (M0 := r11.2) (fun _ q => q) (tm_callV (As := [.int 616]) (rest := []) ⟨hx, hb, hml, hown, hts⟩ hK hG hP hS (c_X10_pass l g A L hD hF M10 616 r11 e12) (cwV 1 hts gX10_claimedBy_X10_pass rfl rfl rfl (by decide +kernel) ⟨Nat.le_of_ble_eq_true rfl, Nat.le_of_ble_eq_true rfl⟩) (tm_recv hK hP (hF 127 (by decide)) (ci := 9) rfl (tm_mkX10 (by decide) _)) rfl hl.1 (lv_room (Nat.le_of_ble_eq_true rfl)) dX10_claimedBy_32 ⟨Nat.zero_le _, Nat.zero_le _⟩) hS (fun H locs hP hS => ?_)
        refine lv_pop hx hb dX10_claimedBy_35 rfl ?_
        refine lv_iinc (v := v4 + 1) (lv' := [(4, .int (v4 + 1)), (0, .ref (g.2.2 + 127)), (1, .int w1), (2, .int w2), (3, .int w3)]) hx hb dX10_claimedBy_36 hl (k := 4) rfl rfl (by decide) rfl (fun ls hl => ?_)
        refine lv_goto (tgt := 8) hx hb dX10_claimedBy_39 (by decide) ?_
        exact ih (v4 + 1) r11.2 h _ _ _ hP hS (lv_sub hl [1, 2, 3, 4, 0] rfl)
set_option maxHeartbeats 4000000 in
set_option maxRecDepth 100000 in
theorem c_X10_claimedBy (l : Launch) (g : tm_G) (A : Nat → Prop) (L : List Nat) (hD : ∀ M, va_D A (tm_ws g L M)) (hF : ∀ o, tm_all o → o ∈ L) (M : tm_M) (p1 : Int32) (p2 : Int32) (p3 : Int32) (R0 : Int32 × tm_M) (h : f_X10_claimedBy M p1 p2 p3 = some R0) : Met l yX10_claimedBy wsX10_claimedBy { frames := 5, cells := 0, slots := 0, locals := 115 } (tm_PC g A L M [.ref (g.2.2 + 127), .int p1, .int p2, .int p3]) (tm_QI g A L R0) 0 0 A := by
  refine tm_start (cc := cX10_claimedBy) (nL := 5) (ret := (some .int)) (F := tm_all) (plainFor_of_name (by decide)) rfl (Nat.le_of_ble_eq_true rfl) hD hF (fun p e s m args below meth c ls C0 hP hS hl => ?_)
  have hl : lv_has ls 5 [(0, .ref (g.2.2 + 127)), (1, .int p1), (2, .int p2), (3, .int p3)] := hl
  have C0 : tm_C p m c cX10_claimedBy 5 s args wsX10_claimedBy RX10 meth (some .int) g A L tm_all := C0
  obtain ⟨⟨hx, hb, hml, hown, hts⟩, hr, hlk, hK, hD, hG, hF⟩ := id C0
  unfold f_X10_claimedBy at h
  refine lv_aload_n hx hb dX10_claimedBy_0 rfl (lv_at hl 0 rfl) ?_
  refine lv_iconst (v := 0) hx hb dX10_claimedBy_1 (by decide) ?_
  obtain ⟨M3, e2, h⟩ := tm_bd_some h
  refine tm_backV (M0 := M3) (fun _ q => q) (tm_callV (As := [.int 0]) (rest := []) ⟨hx, hb, hml, hown, hts⟩ hK hG hP hS (c_X10_layTried l g A L hD hF M 0 M3 e2) (cwV 1 hts gX10_claimedBy_X10_layTried rfl rfl rfl (by decide +kernel) ⟨Nat.le_of_ble_eq_true rfl, Nat.le_of_ble_eq_true rfl⟩) (tm_recv hK hP (hF 127 (by decide)) (ci := 9) rfl (tm_mkX10 (by decide) _)) rfl hl.1 (lv_room (Nat.le_of_ble_eq_true rfl)) dX10_claimedBy_2 ⟨Nat.zero_le _, Nat.zero_le _⟩) hS (fun H locs hP hS => ?_)
  refine lv_iconst (v := 0) hx hb dX10_claimedBy_5 (by decide) ?_
  refine lv_istore (lv' := [(4, .int 0), (0, .ref (g.2.2 + 127)), (1, .int p1), (2, .int p2), (3, .int p3)]) hx hb dX10_claimedBy_6 hl (by decide) rfl (fun ls hl => ?_)
  refine w_X10_claimedBy_L8 C0 p1 p2 p3 _ R0 (fun v13 M14 h H locs ls hP hS hl => ?_) 1000 0 M3 h _ _ _ hP hS (lv_sub hl [1, 2, 3, 4, 0] rfl)
  refine lv_aload_n hx hb dX10_claimedBy_42 rfl (lv_at hl 0 rfl) ?_
  refine lv_sipush (v := 616) hx hb dX10_claimedBy_43 (by decide) ?_
  refine lv_bipush (v := 38) hx hb dX10_claimedBy_46 (by decide) ?_
  obtain ⟨r15, e16, h⟩ := tm_bd_some h
  refine tm_backI (r0 := r15) (M0 := M14) (fun _ q => q) (tm_callV (As := [.int 616, .int 38]) (rest := []) ⟨hx, hb, hml, hown, hts⟩ hK hG hP hS (c_X10_sumOf l g A L hD hF M14 616 38 r15 e16) (cwV 2 hts gX10_claimedBy_X10_sumOf rfl rfl rfl (by decide +kernel) ⟨Nat.le_of_ble_eq_true rfl, Nat.le_of_ble_eq_true rfl⟩) (tm_recv hK hP (hF 127 (by decide)) (ci := 9) rfl (tm_mkX10 (by decide) _)) rfl hl.1 (lv_room (Nat.le_of_ble_eq_true rfl)) dX10_claimedBy_48 ⟨Nat.zero_le _, Nat.zero_le _⟩) hS (fun H locs hP hS => ?_)
  exact tm_iret C0 (Option.some.inj h) hP hS dX10_claimedBy_51
/-! X10_kissOn -/
def f_X10_kissOn_L38 (k : Int32 → Int32 → Int32 → tm_M → Option (Int32 × tm_M)) (w1 : Int32) (w2 : Int32) : Nat → Int32 → Int32 → Int32 → tm_M → Option (Int32 × tm_M)
  | 0, _, _, _, _ => none
  | n + 1, v3, v4, v5, M =>
    if w2 ≤ v5 then
      k v3 v4 v5 M
    else
      (f_X10_claimedBy M w1 v5 w2).bind fun r11 =>
      (some r11.1).bind fun x13 =>
      if v4 ≤ x13 then
        if v4 ≤ x13 then
          f_X10_kissOn_L38 k w1 w2 n v3 v4 (v5 + 1) r11.2
        else
          f_X10_kissOn_L38 k w1 w2 n v3 x13 (v5 + 1) r11.2
      else
        if v4 ≤ x13 then
          f_X10_kissOn_L38 k w1 w2 n v5 v4 (v5 + 1) r11.2
        else
          f_X10_kissOn_L38 k w1 w2 n v5 x13 (v5 + 1) r11.2
def f_X10_kissOn (M : tm_M) (p1 : Int32) (p2 : Int32) : Option (Int32 × tm_M) :=
  (f_X10_isCouple M p1).bind fun r1 =>
  if r1 = 0 then
    some ((-2), M)
  else
    (f_X10_in p2 1 30).bind fun r4 =>
    if r4 = 0 then
      some ((-3), M)
    else
      (f_X10_claimedBy M p1 (-1) p2).bind fun r7 =>
      (some r7.1).bind fun x9 =>
      f_X10_kissOn_L38 (fun v17 v18 v19 M20 =>
        some (v17, M20)) p1 p2 1000 (-1) x9 0 r7.2
set_option maxHeartbeats 4000000 in
set_option maxRecDepth 100000 in
theorem w_X10_kissOn_L38 {p : Program} {l : Launch} {e : Env} {s : State} {m : MethodId} {args : Array Value} {below : List Frame} {meth : Method} {c : Code} {g : tm_G} {A : Nat → Prop} {L : List Nat} (C0 : tm_C p m c cX10_kissOn 7 s args wsX10_kissOn RX10 meth (some .int) g A L tm_all) (w1 : Int32) (w2 : Int32) (k : Int32 → Int32 → Int32 → tm_M → Option (Int32 × tm_M)) (R0 : Int32 × tm_M) (hk : ∀ (v3 : Int32) (v4 : Int32) (v5 : Int32) (M : tm_M), k v3 v4 v5 M = some R0 → ∀ (H : Heap) (locs : List Loc) (ls : Array Slot), va_P g.1 vwCl (tm_ws g L M) H → va_S A s.heap H locs → lv_has ls 7 [(0, .ref (g.2.2 + 127)), (1, .int w1), (2, .int w2), (3, .int v3), (4, .int v4), (5, .int v5)] → W p l e { frames := 6, cells := 0, slots := 0, locals := 139 } s m args below meth c H locs 0 0 (MQ below (tm_QI g A L R0) args s 0 0 A) (F0 m 90 ls [])) : ∀ (n : Nat) (v3 : Int32) (v4 : Int32) (v5 : Int32) (M : tm_M), f_X10_kissOn_L38 k w1 w2 n v3 v4 v5 M = some R0 → ∀ (H : Heap) (locs : List Loc) (ls : Array Slot), va_P g.1 vwCl (tm_ws g L M) H → va_S A s.heap H locs → lv_has ls 7 [(0, .ref (g.2.2 + 127)), (1, .int w1), (2, .int w2), (3, .int v3), (4, .int v4), (5, .int v5)] → W p l e { frames := 6, cells := 0, slots := 0, locals := 139 } s m args below meth c H locs 0 0 (MQ below (tm_QI g A L R0) args s 0 0 A) (F0 m 38 ls []) := by
  obtain ⟨⟨hx, hb, hml, hown, hts⟩, hr, hlk, hK, hD, hG, hF⟩ := id C0
  intro n
  induction n with
  | zero =>
    intro v3 v4 v5 M h
    simp [f_X10_kissOn_L38] at h
  | succ n ih =>
    intro v3 v4 v5 M h H locs ls hP hS hl
    rw [f_X10_kissOn_L38] at h
    refine lv_iload hx hb dX10_kissOn_38 (lv_at hl 5 rfl) ?_
    refine lv_iload_n hx hb dX10_kissOn_40 rfl (lv_at hl 2 rfl) ?_
    refine lv_icmp_ge (tgt := 90) hx hb dX10_kissOn_41 (by decide) (fun c10 => ?_) (fun c10 => ?_)
    · rw [if_pos c10] at h
      exact hk v3 v4 v5 M h _ _ _ hP hS (lv_sub hl [0, 1, 2, 3, 4, 5] rfl)
    · rw [if_neg c10] at h
      refine lv_aload_n hx hb dX10_kissOn_44 rfl (lv_at hl 0 rfl) ?_
      refine lv_iload_n hx hb dX10_kissOn_45 rfl (lv_at hl 1 rfl) ?_
      refine lv_iload hx hb dX10_kissOn_46 (lv_at hl 5 rfl) ?_
      refine lv_iload_n hx hb dX10_kissOn_48 rfl (lv_at hl 2 rfl) ?_
      obtain ⟨r11, e12, h⟩ := tm_bd_some h
      refine tm_backI (r0 := r11.1) (M0 := r11.2) (fun _ q => q) (tm_callV (As := [.int w1, .int v5, .int w2]) (rest := []) ⟨hx, hb, hml, hown, hts⟩ hK hG hP hS (c_X10_claimedBy l g A L hD hF M w1 v5 w2 r11 e12) (cwV 3 hts gX10_kissOn_X10_claimedBy rfl rfl rfl (by decide +kernel) ⟨Nat.le_of_ble_eq_true rfl, Nat.le_of_ble_eq_true rfl⟩) (tm_recv hK hP (hF 127 (by decide)) (ci := 9) rfl (tm_mkX10 (by decide) _)) rfl hl.1 (lv_room (Nat.le_of_ble_eq_true rfl)) dX10_kissOn_49 ⟨Nat.zero_le _, Nat.zero_le _⟩) hS (fun H locs hP hS => ?_)
      refine tm_nam h (fun x13 h => ?_)
      refine lv_istore (lv' := [(6, .int x13), (0, .ref (g.2.2 + 127)), (1, .int w1), (2, .int w2), (3, .int v3), (4, .int v4), (5, .int v5)]) hx hb dX10_kissOn_52 hl (by decide) rfl (fun ls hl => ?_)
      refine lv_iload hx hb dX10_kissOn_54 (lv_at hl 0 rfl) ?_
      refine lv_iload hx hb dX10_kissOn_56 (lv_at hl 5 rfl) ?_
      refine lv_icmp_ge (tgt := 66) hx hb dX10_kissOn_58 (by decide) (fun c14 => ?_) (fun c14 => ?_)
      · rw [if_pos c14] at h
        refine lv_iload_n hx hb dX10_kissOn_66 rfl (lv_at hl 4 rfl) ?_
        refine lv_istore_n (lv' := [(3, .int v3), (6, .int x13), (0, .ref (g.2.2 + 127)), (1, .int w1), (2, .int w2), (4, .int v4), (5, .int v5)]) hx hb dX10_kissOn_67 rfl hl (by decide) rfl (fun ls hl => ?_)
        refine lv_iload hx hb dX10_kissOn_68 (lv_at hl 1 rfl) ?_
        refine lv_iload hx hb dX10_kissOn_70 (lv_at hl 5 rfl) ?_
        refine lv_icmp_ge (tgt := 80) hx hb dX10_kissOn_72 (by decide) (fun c15 => ?_) (fun c15 => ?_)
        · rw [if_pos c15] at h
          refine lv_iload hx hb dX10_kissOn_80 (lv_at hl 5 rfl) ?_
          refine lv_istore (lv' := [(4, .int v4), (3, .int v3), (6, .int x13), (0, .ref (g.2.2 + 127)), (1, .int w1), (2, .int w2), (5, .int v5)]) hx hb dX10_kissOn_82 hl (by decide) rfl (fun ls hl => ?_)
          refine lv_iinc (v := v5 + 1) (lv' := [(5, .int (v5 + 1)), (4, .int v4), (3, .int v3), (6, .int x13), (0, .ref (g.2.2 + 127)), (1, .int w1), (2, .int w2)]) hx hb dX10_kissOn_84 hl (k := 6) rfl rfl (by decide) rfl (fun ls hl => ?_)
          refine lv_goto (tgt := 38) hx hb dX10_kissOn_87 (by decide) ?_
          exact ih v3 v4 (v5 + 1) r11.2 h _ _ _ hP hS (lv_sub hl [4, 5, 6, 2, 1, 0] rfl)
        · rw [if_neg c15] at h
          refine lv_iload hx hb dX10_kissOn_75 (lv_at hl 1 rfl) ?_
          refine lv_goto (tgt := 82) hx hb dX10_kissOn_77 (by decide) ?_
          refine lv_istore (lv' := [(4, .int x13), (3, .int v3), (6, .int x13), (0, .ref (g.2.2 + 127)), (1, .int w1), (2, .int w2), (5, .int v5)]) hx hb dX10_kissOn_82 hl (by decide) rfl (fun ls hl => ?_)
          refine lv_iinc (v := v5 + 1) (lv' := [(5, .int (v5 + 1)), (4, .int x13), (3, .int v3), (6, .int x13), (0, .ref (g.2.2 + 127)), (1, .int w1), (2, .int w2)]) hx hb dX10_kissOn_84 hl (k := 6) rfl rfl (by decide) rfl (fun ls hl => ?_)
          refine lv_goto (tgt := 38) hx hb dX10_kissOn_87 (by decide) ?_
          exact ih v3 x13 (v5 + 1) r11.2 h _ _ _ hP hS (lv_sub hl [4, 5, 6, 2, 1, 0] rfl)
      · rw [if_neg c14] at h
        refine lv_iload hx hb dX10_kissOn_61 (lv_at hl 6 rfl) ?_
        refine lv_goto (tgt := 67) hx hb dX10_kissOn_63 (by decide) ?_
        refine lv_istore_n (lv' := [(3, .int v5), (6, .int x13), (0, .ref (g.2.2 + 127)), (1, .int w1), (2, .int w2), (4, .int v4), (5, .int v5)]) hx hb dX10_kissOn_67 rfl hl (by decide) rfl (fun ls hl => ?_)
        refine lv_iload hx hb dX10_kissOn_68 (lv_at hl 1 rfl) ?_
        refine lv_iload hx hb dX10_kissOn_70 (lv_at hl 5 rfl) ?_
        refine lv_icmp_ge (tgt := 80) hx hb dX10_kissOn_72 (by decide) (fun c16 => ?_) (fun c16 => ?_)
        · rw [if_pos c16] at h
          refine lv_iload hx hb dX10_kissOn_80 (lv_at hl 5 rfl) ?_
          refine lv_istore (lv' := [(4, .int v4), (3, .int v5), (6, .int x13), (0, .ref (g.2.2 + 127)), (1, .int w1), (2, .int w2), (5, .int v5)]) hx hb dX10_kissOn_82 hl (by decide) rfl (fun ls hl => ?_)
          refine lv_iinc (v := v5 + 1) (lv' := [(5, .int (v5 + 1)), (4, .int v4), (3, .int v5), (6, .int x13), (0, .ref (g.2.2 + 127)), (1, .int w1), (2, .int w2)]) hx hb dX10_kissOn_84 hl (k := 6) rfl rfl (by decide) rfl (fun ls hl => ?_)
          refine lv_goto (tgt := 38) hx hb dX10_kissOn_87 (by decide) ?_
          exact ih v5 v4 (v5 + 1) r11.2 h _ _ _ hP hS (lv_sub hl [4, 5, 6, 2, 1, 0] rfl)
        · rw [if_neg c16] at h
          refine lv_iload hx hb dX10_kissOn_75 (lv_at hl 1 rfl) ?_
          refine lv_goto (tgt := 82) hx hb dX10_kissOn_77 (by decide) ?_
          refine lv_istore (lv' := [(4, .int x13), (3, .int v5), (6, .int x13), (0, .ref (g.2.2 + 127)), (1, .int w1), (2, .int w2), (5, .int v5)]) hx hb dX10_kissOn_82 hl (by decide) rfl (fun ls hl => ?_)
          refine lv_iinc (v := v5 + 1) (lv' := [(5, .int (v5 + 1)), (4, .int x13), (3, .int v5), (6, .int x13), (0, .ref (g.2.2 + 127)), (1, .int w1), (2, .int w2)]) hx hb dX10_kissOn_84 hl (k := 6) rfl rfl (by decide) rfl (fun ls hl => ?_)
          refine lv_goto (tgt := 38) hx hb dX10_kissOn_87 (by decide) ?_
          exact ih v5 x13 (v5 + 1) r11.2 h _ _ _ hP hS (lv_sub hl [4, 5, 6, 2, 1, 0] rfl)
set_option maxHeartbeats 4000000 in
set_option maxRecDepth 100000 in
theorem c_X10_kissOn (l : Launch) (g : tm_G) (A : Nat → Prop) (L : List Nat) (hD : ∀ M, va_D A (tm_ws g L M)) (hF : ∀ o, tm_all o → o ∈ L) (M : tm_M) (p1 : Int32) (p2 : Int32) (R0 : Int32 × tm_M) (h : f_X10_kissOn M p1 p2 = some R0) : Met l yX10_kissOn wsX10_kissOn { frames := 6, cells := 0, slots := 0, locals := 139 } (tm_PC g A L M [.ref (g.2.2 + 127), .int p1, .int p2]) (tm_QI g A L R0) 0 0 A := by
  refine tm_start (cc := cX10_kissOn) (nL := 7) (ret := (some .int)) (F := tm_all) (plainFor_of_name (by decide)) rfl (Nat.le_of_ble_eq_true rfl) hD hF (fun p e s m args below meth c ls C0 hP hS hl => ?_)
  have hl : lv_has ls 7 [(0, .ref (g.2.2 + 127)), (1, .int p1), (2, .int p2)] := hl
  have C0 : tm_C p m c cX10_kissOn 7 s args wsX10_kissOn RX10 meth (some .int) g A L tm_all := C0
  obtain ⟨⟨hx, hb, hml, hown, hts⟩, hr, hlk, hK, hD, hG, hF⟩ := id C0
  unfold f_X10_kissOn at h
  refine lv_aload_n hx hb dX10_kissOn_0 rfl (lv_at hl 0 rfl) ?_
  refine lv_iload_n hx hb dX10_kissOn_1 rfl (lv_at hl 1 rfl) ?_
  obtain ⟨r1, e2, h⟩ := tm_bd_some h
  refine tm_backI (r0 := r1) (M0 := M) (fun _ q => q) (tm_callV (As := [.int p1]) (rest := []) ⟨hx, hb, hml, hown, hts⟩ hK hG hP hS (c_X10_isCouple l g A L hD hF M p1 r1 e2) (cwV 1 hts gX10_kissOn_X10_isCouple rfl rfl rfl (by decide +kernel) ⟨Nat.le_of_ble_eq_true rfl, Nat.le_of_ble_eq_true rfl⟩) (tm_recv hK hP (hF 127 (by decide)) (ci := 9) rfl (tm_mkX10 (by decide) _)) rfl hl.1 (lv_room (Nat.le_of_ble_eq_true rfl)) dX10_kissOn_2 ⟨Nat.zero_le _, Nat.zero_le _⟩) hS (fun H locs hP hS => ?_)
  refine lv_if_ne (tgt := 11) hx hb dX10_kissOn_5 (by decide) (fun c3 => ?_) (fun c3 => ?_)
  · rw [if_neg c3] at h
    refine lv_iload_n hx hb dX10_kissOn_11 rfl (lv_at hl 2 rfl) ?_
    refine lv_iconst (v := 1) hx hb dX10_kissOn_12 (by decide) ?_
    refine lv_bipush (v := 30) hx hb dX10_kissOn_13 (by decide) ?_
    obtain ⟨r4, e5, h⟩ := tm_bd_some h
    refine tm_backI (r0 := r4) (M0 := M) (fun _ q => q) (tm_callS (As := [.int p2, .int 1, .int 30]) (rest := []) ⟨hx, hb, hml, hown, hts⟩ hK hG hP hS (c_X10_in l g A L hD hF M p2 1 30 r4 e5) (va_cwS 3 hts gX10_kissOn_X10_in rfl rfl rfl (by decide +kernel) ⟨Nat.le_of_ble_eq_true rfl, Nat.le_of_ble_eq_true rfl⟩) rfl hl.1 (lv_room (Nat.le_of_ble_eq_true rfl)) dX10_kissOn_15 ⟨Nat.zero_le _, Nat.zero_le _⟩) hS (fun H locs hP hS => ?_)
    refine lv_if_ne (tgt := 24) hx hb dX10_kissOn_18 (by decide) (fun c6 => ?_) (fun c6 => ?_)
    · rw [if_neg c6] at h
      refine lv_iconst (v := (-1)) hx hb dX10_kissOn_24 (by decide) ?_
      refine lv_istore_n (lv' := [(3, .int (-1)), (0, .ref (g.2.2 + 127)), (1, .int p1), (2, .int p2)]) hx hb dX10_kissOn_25 rfl hl (by decide) rfl (fun ls hl => ?_)
      refine lv_aload_n hx hb dX10_kissOn_26 rfl (lv_at hl 1 rfl) ?_
      refine lv_iload_n hx hb dX10_kissOn_27 rfl (lv_at hl 2 rfl) ?_
      refine lv_iconst (v := (-1)) hx hb dX10_kissOn_28 (by decide) ?_
      refine lv_iload_n hx hb dX10_kissOn_29 rfl (lv_at hl 3 rfl) ?_
      obtain ⟨r7, e8, h⟩ := tm_bd_some h
      refine tm_backI (r0 := r7.1) (M0 := r7.2) (fun _ q => q) (tm_callV (As := [.int p1, .int (-1), .int p2]) (rest := []) ⟨hx, hb, hml, hown, hts⟩ hK hG hP hS (c_X10_claimedBy l g A L hD hF M p1 (-1) p2 r7 e8) (cwV 3 hts gX10_kissOn_X10_claimedBy rfl rfl rfl (by decide +kernel) ⟨Nat.le_of_ble_eq_true rfl, Nat.le_of_ble_eq_true rfl⟩) (tm_recv hK hP (hF 127 (by decide)) (ci := 9) rfl (tm_mkX10 (by decide) _)) rfl hl.1 (lv_room (Nat.le_of_ble_eq_true rfl)) dX10_kissOn_30 ⟨Nat.zero_le _, Nat.zero_le _⟩) hS (fun H locs hP hS => ?_)
      refine tm_nam h (fun x9 h => ?_)
      refine lv_istore (lv' := [(4, .int x9), (3, .int (-1)), (0, .ref (g.2.2 + 127)), (1, .int p1), (2, .int p2)]) hx hb dX10_kissOn_33 hl (by decide) rfl (fun ls hl => ?_)
      refine lv_iconst (v := 0) hx hb dX10_kissOn_35 (by decide) ?_
      refine lv_istore (lv' := [(5, .int 0), (4, .int x9), (3, .int (-1)), (0, .ref (g.2.2 + 127)), (1, .int p1), (2, .int p2)]) hx hb dX10_kissOn_36 hl (by decide) rfl (fun ls hl => ?_)
      refine w_X10_kissOn_L38 C0 p1 p2 _ R0 (fun v17 v18 v19 M20 h H locs ls hP hS hl => ?_) 1000 (-1) x9 0 r7.2 h _ _ _ hP hS (lv_sub hl [3, 4, 5, 2, 1, 0] rfl)
      refine lv_iload_n hx hb dX10_kissOn_90 rfl (lv_at hl 3 rfl) ?_
      exact tm_iret C0 (Option.some.inj h) hP hS dX10_kissOn_91
    · rw [if_pos c6] at h
      refine lv_bipush (v := (-3)) hx hb dX10_kissOn_21 (by decide) ?_
      exact tm_iret C0 (Option.some.inj h) hP hS dX10_kissOn_23
  · rw [if_pos c3] at h
    refine lv_bipush (v := (-2)) hx hb dX10_kissOn_8 (by decide) ?_
    exact tm_iret C0 (Option.some.inj h) hP hS dX10_kissOn_10
/-! X10_take -/
theorem nX10_take_X10 : ∀ w ∈ wsX100, w ∈ wsX10_take := by decide +kernel
theorem kX10_take_0 : Cond.fieldLink RX10 59 "QuarrelDeskModel" "couples" "I" ∈ wsX10_take := by decide +kernel
theorem kX10_take_1 : Cond.fieldLink RX10 53 "QuarrelDeskModel" "broke" "[I" ∈ wsX10_take := by decide +kernel
def f_X10_take_L50 (k : Int32 → tm_M → Option (Int32 × tm_M)) (w1 : Int32) (w2 : Int32) (w3 : Int32) : Nat → Int32 → tm_M → Option (Int32 × tm_M)
  | 0, _, _ => none
  | n + 1, v4, M =>
    if w2 ≤ v4 then
      k v4 M
    else
      (f_X10_pass M 616).bind fun r15 =>
      (tm_wr r15.2 142 60 v4 r15.1).bind fun M17 =>
      f_X10_take_L50 k w1 w2 w3 n (v4 + 1) M17
def f_X10_take_L103 (k : Int32 → Int32 → Option (Int32 × tm_M)) (M : tm_M) (w1 : Int32) (w2 : Int32) (w3 : Int32) (w4 : Int32) (w5 : Int32) (w6 : Int32) : Nat → Int32 → Int32 → Option (Int32 × tm_M)
  | 0, _, _ => none
  | n + 1, v7, v8 =>
    if w2 ≤ v8 then
      k v7 v8
    else
      (tm_rd M 142 60 v8).bind fun x23 =>
      (f_X10_bits (x23 &&& w6)).bind fun r25 =>
      if r25 ≤ v7 then
        f_X10_take_L103 k M w1 w2 w3 w4 w5 w6 n v7 (v8 + 1)
      else
        f_X10_take_L103 k M w1 w2 w3 w4 w5 w6 n r25 (v8 + 1)
def f_X10_take_L86 (k : Int32 → Int32 → Int32 → Option (Int32 × tm_M)) (M : tm_M) (w1 : Int32) (w2 : Int32) (w3 : Int32) : Nat → Int32 → Int32 → Int32 → Option (Int32 × tm_M)
  | 0, _, _, _ => none
  | n + 1, v4, v5, v6 =>
    if (1 <<< ((M 127 7) &&& 31)) ≤ v6 then
      k v4 v5 v6
    else
      f_X10_take_L103 (fun v28 v29 =>
        (f_X10_bits v6).bind fun r30 =>
        if r30 = w1 then
          if v5 ≤ v28 then
            f_X10_take_L86 k M w1 w2 w3 n v4 v5 (v6 + 1)
          else
            f_X10_take_L86 k M w1 w2 w3 n v6 v28 (v6 + 1)
        else
          f_X10_take_L86 k M w1 w2 w3 n v4 v5 (v6 + 1)) M w1 w2 w3 v4 v5 v6 1000 0 0
def f_X10_take (M : tm_M) (p1 : Int32) (p2 : Int32) (p3 : Int32) : Option (Int32 × tm_M) :=
  (f_X10_in p1 0 6).bind fun r1 =>
  if r1 = 0 then
    some ((-3), M)
  else
    (f_X10_in p2 1 60).bind fun r4 =>
    if r4 = 0 then
      some ((-3), M)
    else
      (f_X10_in p3 0 1).bind fun r7 =>
      if r7 = 0 then
        some ((-3), M)
      else
        if p1 ≤ (M 127 7) then
          (f_X10_layTried M 0).bind fun M13 =>
          f_X10_take_L50 (fun v19 M20 =>
            f_X10_take_L86 (fun v40 v41 v42 =>
              if p3 = 0 then
                some (v40, M20)
              else
                some (v41, M20)) M20 p1 p2 p3 1000 (-1) 9 0) p1 p2 p3 1000 0 M13
        else
          some ((-1), M)
set_option maxHeartbeats 4000000 in
set_option maxRecDepth 100000 in
theorem w_X10_take_L50 {p : Program} {l : Launch} {e : Env} {s : State} {m : MethodId} {args : Array Value} {below : List Frame} {meth : Method} {c : Code} {g : tm_G} {A : Nat → Prop} {L : List Nat} (C0 : tm_C p m c cX10_take 10 s args wsX10_take RX10 meth (some .int) g A L tm_all) (w1 : Int32) (w2 : Int32) (w3 : Int32) (k : Int32 → tm_M → Option (Int32 × tm_M)) (R0 : Int32 × tm_M) (hk : ∀ (v4 : Int32) (M : tm_M), k v4 M = some R0 → ∀ (H : Heap) (locs : List Loc) (ls : Array Slot), va_P g.1 vwCl (tm_ws g L M) H → va_S A s.heap H locs → lv_has ls 10 [(0, .ref (g.2.2 + 127)), (1, .int w1), (2, .int w2), (3, .int w3), (4, .int v4)] → W p l e { frames := 5, cells := 0, slots := 0, locals := 115 } s m args below meth c H locs 0 0 (MQ below (tm_QI g A L R0) args s 0 0 A) (F0 m 76 ls [])) : ∀ (n : Nat) (v4 : Int32) (M : tm_M), f_X10_take_L50 k w1 w2 w3 n v4 M = some R0 → ∀ (H : Heap) (locs : List Loc) (ls : Array Slot), va_P g.1 vwCl (tm_ws g L M) H → va_S A s.heap H locs → lv_has ls 10 [(0, .ref (g.2.2 + 127)), (1, .int w1), (2, .int w2), (3, .int w3), (4, .int v4)] → W p l e { frames := 5, cells := 0, slots := 0, locals := 115 } s m args below meth c H locs 0 0 (MQ below (tm_QI g A L R0) args s 0 0 A) (F0 m 50 ls []) := by
  obtain ⟨⟨hx, hb, hml, hown, hts⟩, hr, hlk, hK, hD, hG, hF⟩ := id C0
  intro n
  induction n with
  | zero =>
    intro v4 M h
    simp [f_X10_take_L50] at h
  | succ n ih =>
    intro v4 M h H locs ls hP hS hl
    rw [f_X10_take_L50] at h
    refine lv_iload hx hb dX10_take_50 (lv_at hl 4 rfl) ?_
    refine lv_iload_n hx hb dX10_take_52 rfl (lv_at hl 2 rfl) ?_
    refine lv_icmp_ge (tgt := 76) hx hb dX10_take_53 (by decide) (fun c14 => ?_) (fun c14 => ?_)
    · rw [if_pos c14] at h
      exact hk v4 M h _ _ _ hP hS (lv_sub hl [0, 1, 2, 3, 4] rfl)
    · rw [if_neg c14] at h
      refine lv_aload_n hx hb dX10_take_56 rfl (lv_at hl 0 rfl) ?_
      refine tm_get (C := RX10) (T := TX10) (N := 23) (v := .ref (g.2.2 + 142)) hx hb hts nX10_take_X10 hown hK hP (hF 127 (by decide)) (tm_mkX10 (by decide) _) rfl 22 (by decide) (hts _ kX10_take_1) rfl dX10_take_57 ?_
      refine lv_iload hx hb dX10_take_60 (lv_at hl 4 rfl) ?_
      refine lv_aload_n hx hb dX10_take_62 rfl (lv_at hl 0 rfl) ?_
      refine lv_sipush (v := 616) hx hb dX10_take_63 (by decide) ?_
      obtain ⟨r15, e16, h⟩ := tm_bd_some h
      refine tm_backI (r0 := r15.1) (M0 := r15.2) (fun _ q => q) (tm_callV (As := [.int 616]) (rest := [.int v4, .ref (g.2.2 + 142)]) ⟨hx, hb, hml, hown, hts⟩ hK hG hP hS (c_X10_pass l g A L hD hF M 616 r15 e16) (cwV 1 hts gX10_take_X10_pass rfl rfl rfl (by decide +kernel) ⟨Nat.le_of_ble_eq_true rfl, Nat.le_of_ble_eq_true rfl⟩) (tm_recv hK hP (hF 127 (by decide)) (ci := 9) rfl (tm_mkX10 (by decide) _)) rfl hl.1 (lv_room (Nat.le_of_ble_eq_true rfl)) dX10_take_66 ⟨Nat.zero_le _, Nat.zero_le _⟩) hS (fun H locs hP hS => ?_)
      obtain ⟨M17, e18, h⟩ := tm_bd_some h
      refine tm_iast hx hb hK hP hD hS (hF 142 (by decide)) (tm_mkI (n := 60) (by decide) (by decide)) e18 dX10_take_69 (fun H locs hP hS => ?_)
      refine lv_iinc (v := v4 + 1) (lv' := [(4, .int (v4 + 1)), (0, .ref (g.2.2 + 127)), (1, .int w1), (2, .int w2), (3, .int w3)]) hx hb dX10_take_70 hl (k := 4) rfl rfl (by decide) rfl (fun ls hl => ?_)
      refine lv_goto (tgt := 50) hx hb dX10_take_73 (by decide) ?_
      exact ih (v4 + 1) M17 h _ _ _ hP hS (lv_sub hl [1, 2, 3, 4, 0] rfl)
set_option maxHeartbeats 4000000 in
set_option maxRecDepth 100000 in
theorem w_X10_take_L103 {p : Program} {l : Launch} {e : Env} {s : State} {m : MethodId} {args : Array Value} {below : List Frame} {meth : Method} {c : Code} {g : tm_G} {A : Nat → Prop} {L : List Nat} (C0 : tm_C p m c cX10_take 10 s args wsX10_take RX10 meth (some .int) g A L tm_all) (M : tm_M) (w1 : Int32) (w2 : Int32) (w3 : Int32) (w4 : Int32) (w5 : Int32) (w6 : Int32) (k : Int32 → Int32 → Option (Int32 × tm_M)) (R0 : Int32 × tm_M) (hk : ∀ (v7 : Int32) (v8 : Int32), k v7 v8 = some R0 → ∀ (H : Heap) (locs : List Loc) (ls : Array Slot), va_P g.1 vwCl (tm_ws g L M) H → va_S A s.heap H locs → lv_has ls 10 [(0, .ref (g.2.2 + 127)), (1, .int w1), (2, .int w2), (3, .int w3), (4, .int w4), (5, .int w5), (6, .int w6), (7, .int v7), (8, .int v8)] → W p l e { frames := 5, cells := 0, slots := 0, locals := 115 } s m args below meth c H locs 0 0 (MQ below (tm_QI g A L R0) args s 0 0 A) (F0 m 146 ls [])) : ∀ (n : Nat) (v7 : Int32) (v8 : Int32), f_X10_take_L103 k M w1 w2 w3 w4 w5 w6 n v7 v8 = some R0 → ∀ (H : Heap) (locs : List Loc) (ls : Array Slot), va_P g.1 vwCl (tm_ws g L M) H → va_S A s.heap H locs → lv_has ls 10 [(0, .ref (g.2.2 + 127)), (1, .int w1), (2, .int w2), (3, .int w3), (4, .int w4), (5, .int w5), (6, .int w6), (7, .int v7), (8, .int v8)] → W p l e { frames := 5, cells := 0, slots := 0, locals := 115 } s m args below meth c H locs 0 0 (MQ below (tm_QI g A L R0) args s 0 0 A) (F0 m 103 ls []) := by
  obtain ⟨⟨hx, hb, hml, hown, hts⟩, hr, hlk, hK, hD, hG, hF⟩ := id C0
  intro n
  induction n with
  | zero =>
    intro v7 v8 h
    simp [f_X10_take_L103] at h
  | succ n ih =>
    intro v7 v8 h H locs ls hP hS hl
    rw [f_X10_take_L103] at h
    refine lv_iload hx hb dX10_take_103 (lv_at hl 8 rfl) ?_
    refine lv_iload_n hx hb dX10_take_105 rfl (lv_at hl 2 rfl) ?_
    refine lv_icmp_ge (tgt := 146) hx hb dX10_take_106 (by decide) (fun c22 => ?_) (fun c22 => ?_)
    · rw [if_pos c22] at h
      exact hk v7 v8 h _ _ _ hP hS (lv_sub hl [0, 1, 2, 3, 4, 5, 6, 7, 8] rfl)
    · rw [if_neg c22] at h
      refine lv_aload_n hx hb dX10_take_109 rfl (lv_at hl 0 rfl) ?_
      refine tm_get (C := RX10) (T := TX10) (N := 23) (v := .ref (g.2.2 + 142)) hx hb hts nX10_take_X10 hown hK hP (hF 127 (by decide)) (tm_mkX10 (by decide) _) rfl 22 (by decide) (hts _ kX10_take_1) rfl dX10_take_110 ?_
      refine lv_iload hx hb dX10_take_113 (lv_at hl 8 rfl) ?_
      obtain ⟨x23, e24, h⟩ := tm_bd_some h
      refine tm_iald hx hb hK hP (hF 142 (by decide)) (tm_mkI (n := 60) (by decide) (by decide)) e24 dX10_take_115 ?_
      refine lv_iload hx hb dX10_take_116 (lv_at hl 6 rfl) ?_
      refine lv_iand hx hb dX10_take_118 ?_
      obtain ⟨r25, e26, h⟩ := tm_bd_some h
      refine tm_backI (r0 := r25) (M0 := M) (fun _ q => q) (tm_callS (As := [.int (x23 &&& w6)]) (rest := []) ⟨hx, hb, hml, hown, hts⟩ hK hG hP hS (c_X10_bits l g A L hD hF M (x23 &&& w6) r25 e26) (va_cwS 1 hts gX10_take_X10_bits rfl rfl rfl (by decide +kernel) ⟨Nat.le_of_ble_eq_true rfl, Nat.le_of_ble_eq_true rfl⟩) rfl hl.1 (lv_room (Nat.le_of_ble_eq_true rfl)) dX10_take_119 ⟨Nat.zero_le _, Nat.zero_le _⟩) hS (fun H locs hP hS => ?_)
      refine lv_istore (lv' := [(9, .int r25), (0, .ref (g.2.2 + 127)), (1, .int w1), (2, .int w2), (3, .int w3), (4, .int w4), (5, .int w5), (6, .int w6), (7, .int v7), (8, .int v8)]) hx hb dX10_take_122 hl (by decide) rfl (fun ls hl => ?_)
      refine lv_iload hx hb dX10_take_124 (lv_at hl 0 rfl) ?_
      refine lv_iload hx hb dX10_take_126 (lv_at hl 8 rfl) ?_
      refine lv_icmp_le (tgt := 136) hx hb dX10_take_128 (by decide) (fun c27 => ?_) (fun c27 => ?_)
      · rw [if_pos c27] at h
        refine lv_iload hx hb dX10_take_136 (lv_at hl 8 rfl) ?_
        refine lv_istore (lv' := [(7, .int v7), (9, .int r25), (0, .ref (g.2.2 + 127)), (1, .int w1), (2, .int w2), (3, .int w3), (4, .int w4), (5, .int w5), (6, .int w6), (8, .int v8)]) hx hb dX10_take_138 hl (by decide) rfl (fun ls hl => ?_)
        refine lv_iinc (v := v8 + 1) (lv' := [(8, .int (v8 + 1)), (7, .int v7), (9, .int r25), (0, .ref (g.2.2 + 127)), (1, .int w1), (2, .int w2), (3, .int w3), (4, .int w4), (5, .int w5), (6, .int w6)]) hx hb dX10_take_140 hl (k := 9) rfl rfl (by decide) rfl (fun ls hl => ?_)
        refine lv_goto (tgt := 103) hx hb dX10_take_143 (by decide) ?_
        exact ih v7 (v8 + 1) h _ _ _ hP hS (lv_sub hl [3, 4, 5, 6, 7, 8, 9, 1, 0] rfl)
      · rw [if_neg c27] at h
        refine lv_iload hx hb dX10_take_131 (lv_at hl 0 rfl) ?_
        refine lv_goto (tgt := 138) hx hb dX10_take_133 (by decide) ?_
        refine lv_istore (lv' := [(7, .int r25), (9, .int r25), (0, .ref (g.2.2 + 127)), (1, .int w1), (2, .int w2), (3, .int w3), (4, .int w4), (5, .int w5), (6, .int w6), (8, .int v8)]) hx hb dX10_take_138 hl (by decide) rfl (fun ls hl => ?_)
        refine lv_iinc (v := v8 + 1) (lv' := [(8, .int (v8 + 1)), (7, .int r25), (9, .int r25), (0, .ref (g.2.2 + 127)), (1, .int w1), (2, .int w2), (3, .int w3), (4, .int w4), (5, .int w5), (6, .int w6)]) hx hb dX10_take_140 hl (k := 9) rfl rfl (by decide) rfl (fun ls hl => ?_)
        refine lv_goto (tgt := 103) hx hb dX10_take_143 (by decide) ?_
        exact ih r25 (v8 + 1) h _ _ _ hP hS (lv_sub hl [3, 4, 5, 6, 7, 8, 9, 1, 0] rfl)
set_option maxHeartbeats 4000000 in
set_option maxRecDepth 100000 in
theorem w_X10_take_L86 {p : Program} {l : Launch} {e : Env} {s : State} {m : MethodId} {args : Array Value} {below : List Frame} {meth : Method} {c : Code} {g : tm_G} {A : Nat → Prop} {L : List Nat} (C0 : tm_C p m c cX10_take 10 s args wsX10_take RX10 meth (some .int) g A L tm_all) (M : tm_M) (w1 : Int32) (w2 : Int32) (w3 : Int32) (k : Int32 → Int32 → Int32 → Option (Int32 × tm_M)) (R0 : Int32 × tm_M) (hk : ∀ (v4 : Int32) (v5 : Int32) (v6 : Int32), k v4 v5 v6 = some R0 → ∀ (H : Heap) (locs : List Loc) (ls : Array Slot), va_P g.1 vwCl (tm_ws g L M) H → va_S A s.heap H locs → lv_has ls 10 [(0, .ref (g.2.2 + 127)), (1, .int w1), (2, .int w2), (3, .int w3), (4, .int v4), (5, .int v5), (6, .int v6)] → W p l e { frames := 5, cells := 0, slots := 0, locals := 115 } s m args below meth c H locs 0 0 (MQ below (tm_QI g A L R0) args s 0 0 A) (F0 m 203 ls [])) : ∀ (n : Nat) (v4 : Int32) (v5 : Int32) (v6 : Int32), f_X10_take_L86 k M w1 w2 w3 n v4 v5 v6 = some R0 → ∀ (H : Heap) (locs : List Loc) (ls : Array Slot), va_P g.1 vwCl (tm_ws g L M) H → va_S A s.heap H locs → lv_has ls 10 [(0, .ref (g.2.2 + 127)), (1, .int w1), (2, .int w2), (3, .int w3), (4, .int v4), (5, .int v5), (6, .int v6)] → W p l e { frames := 5, cells := 0, slots := 0, locals := 115 } s m args below meth c H locs 0 0 (MQ below (tm_QI g A L R0) args s 0 0 A) (F0 m 86 ls []) := by
  obtain ⟨⟨hx, hb, hml, hown, hts⟩, hr, hlk, hK, hD, hG, hF⟩ := id C0
  intro n
  induction n with
  | zero =>
    intro v4 v5 v6 h
    simp [f_X10_take_L86] at h
  | succ n ih =>
    intro v4 v5 v6 h H locs ls hP hS hl
    rw [f_X10_take_L86] at h
    refine lv_iload hx hb dX10_take_86 (lv_at hl 6 rfl) ?_
    refine lv_iconst (v := 1) hx hb dX10_take_88 (by decide) ?_
    refine lv_aload_n hx hb dX10_take_89 rfl (lv_at hl 0 rfl) ?_
    refine tm_get (C := RX10) (T := TX10) (N := 23) (v := .int (M 127 7)) hx hb hts nX10_take_X10 hown hK hP (hF 127 (by decide)) (tm_mkX10 (by decide) _) rfl 7 (by decide) (hts _ kX10_take_0) rfl dX10_take_90 ?_
    refine lv_ishl hx hb dX10_take_93 ?_
    refine lv_icmp_ge (tgt := 203) hx hb dX10_take_94 (by decide) (fun c21 => ?_) (fun c21 => ?_)
    · rw [if_pos c21] at h
      exact hk v4 v5 v6 h _ _ _ hP hS (lv_sub hl [0, 1, 2, 3, 4, 5, 6] rfl)
    · rw [if_neg c21] at h
      refine lv_iconst (v := 0) hx hb dX10_take_97 (by decide) ?_
      refine lv_istore (lv' := [(7, .int 0), (0, .ref (g.2.2 + 127)), (1, .int w1), (2, .int w2), (3, .int w3), (4, .int v4), (5, .int v5), (6, .int v6)]) hx hb dX10_take_98 hl (by decide) rfl (fun ls hl => ?_)
      refine lv_iconst (v := 0) hx hb dX10_take_100 (by decide) ?_
      refine lv_istore (lv' := [(8, .int 0), (7, .int 0), (0, .ref (g.2.2 + 127)), (1, .int w1), (2, .int w2), (3, .int w3), (4, .int v4), (5, .int v5), (6, .int v6)]) hx hb dX10_take_101 hl (by decide) rfl (fun ls hl => ?_)
      refine w_X10_take_L103 C0 M w1 w2 w3 v4 v5 v6 _ R0 (fun v28 v29 h H locs ls hP hS hl => ?_) 1000 0 0 h _ _ _ hP hS (lv_sub hl [2, 3, 4, 5, 6, 7, 8, 1, 0] rfl)
      refine lv_iload hx hb dX10_take_146 (lv_at hl 6 rfl) ?_
      obtain ⟨r30, e31, h⟩ := tm_bd_some h
      refine tm_backI (r0 := r30) (M0 := M) (fun _ q => q) (tm_callS (As := [.int v6]) (rest := []) ⟨hx, hb, hml, hown, hts⟩ hK hG hP hS (c_X10_bits l g A L hD hF M v6 r30 e31) (va_cwS 1 hts gX10_take_X10_bits rfl rfl rfl (by decide +kernel) ⟨Nat.le_of_ble_eq_true rfl, Nat.le_of_ble_eq_true rfl⟩) rfl hl.1 (lv_room (Nat.le_of_ble_eq_true rfl)) dX10_take_148 ⟨Nat.zero_le _, Nat.zero_le _⟩) hS (fun H locs hP hS => ?_)
      refine lv_iload_n hx hb dX10_take_151 rfl (lv_at hl 1 rfl) ?_
      refine lv_icmp_ne (tgt := 166) hx hb dX10_take_152 (by decide) (fun c32 => ?_) (fun c32 => ?_)
      · rw [if_neg c32] at h
        refine lv_iconst (v := 0) hx hb dX10_take_166 (by decide) ?_
        refine lv_istore (lv' := [(8, .int 0), (0, .ref (g.2.2 + 127)), (1, .int w1), (2, .int w2), (3, .int w3), (4, .int v4), (5, .int v5), (6, .int v6), (7, .int v28)]) hx hb dX10_take_167 hl (by decide) rfl (fun ls hl => ?_)
        refine lv_iload hx hb dX10_take_169 (lv_at hl 0 rfl) ?_
        refine lv_if_eq (tgt := 179) hx hb dX10_take_171 (by decide) (fun _ => ?_) (fun c33 => absurd (by decide) c33)
        refine lv_iload hx hb dX10_take_179 (lv_at hl 5 rfl) ?_
        refine lv_istore (lv' := [(4, .int v4), (8, .int 0), (0, .ref (g.2.2 + 127)), (1, .int w1), (2, .int w2), (3, .int w3), (5, .int v5), (6, .int v6), (7, .int v28)]) hx hb dX10_take_181 hl (by decide) rfl (fun ls hl => ?_)
        refine lv_iload hx hb dX10_take_183 (lv_at hl 1 rfl) ?_
        refine lv_if_eq (tgt := 193) hx hb dX10_take_185 (by decide) (fun _ => ?_) (fun c34 => absurd (by decide) c34)
        refine lv_iload hx hb dX10_take_193 (lv_at hl 6 rfl) ?_
        refine lv_istore (lv' := [(5, .int v5), (4, .int v4), (8, .int 0), (0, .ref (g.2.2 + 127)), (1, .int w1), (2, .int w2), (3, .int w3), (6, .int v6), (7, .int v28)]) hx hb dX10_take_195 hl (by decide) rfl (fun ls hl => ?_)
        refine lv_iinc (v := v6 + 1) (lv' := [(6, .int (v6 + 1)), (5, .int v5), (4, .int v4), (8, .int 0), (0, .ref (g.2.2 + 127)), (1, .int w1), (2, .int w2), (3, .int w3), (7, .int v28)]) hx hb dX10_take_197 hl (k := 7) rfl rfl (by decide) rfl (fun ls hl => ?_)
        refine lv_goto (tgt := 86) hx hb dX10_take_200 (by decide) ?_
        exact ih v4 v5 (v6 + 1) h _ _ _ hP hS (lv_sub hl [4, 5, 6, 7, 2, 1, 0] rfl)
      · rw [if_pos c32] at h
        refine lv_iload hx hb dX10_take_155 (lv_at hl 7 rfl) ?_
        refine lv_iload hx hb dX10_take_157 (lv_at hl 5 rfl) ?_
        refine lv_icmp_ge (tgt := 166) hx hb dX10_take_159 (by decide) (fun c35 => ?_) (fun c35 => ?_)
        · rw [if_pos c35] at h
          refine lv_iconst (v := 0) hx hb dX10_take_166 (by decide) ?_
          refine lv_istore (lv' := [(8, .int 0), (0, .ref (g.2.2 + 127)), (1, .int w1), (2, .int w2), (3, .int w3), (4, .int v4), (5, .int v5), (6, .int v6), (7, .int v28)]) hx hb dX10_take_167 hl (by decide) rfl (fun ls hl => ?_)
          refine lv_iload hx hb dX10_take_169 (lv_at hl 0 rfl) ?_
          refine lv_if_eq (tgt := 179) hx hb dX10_take_171 (by decide) (fun _ => ?_) (fun c36 => absurd (by decide) c36)
          refine lv_iload hx hb dX10_take_179 (lv_at hl 5 rfl) ?_
          refine lv_istore (lv' := [(4, .int v4), (8, .int 0), (0, .ref (g.2.2 + 127)), (1, .int w1), (2, .int w2), (3, .int w3), (5, .int v5), (6, .int v6), (7, .int v28)]) hx hb dX10_take_181 hl (by decide) rfl (fun ls hl => ?_)
          refine lv_iload hx hb dX10_take_183 (lv_at hl 1 rfl) ?_
          refine lv_if_eq (tgt := 193) hx hb dX10_take_185 (by decide) (fun _ => ?_) (fun c37 => absurd (by decide) c37)
          refine lv_iload hx hb dX10_take_193 (lv_at hl 6 rfl) ?_
          refine lv_istore (lv' := [(5, .int v5), (4, .int v4), (8, .int 0), (0, .ref (g.2.2 + 127)), (1, .int w1), (2, .int w2), (3, .int w3), (6, .int v6), (7, .int v28)]) hx hb dX10_take_195 hl (by decide) rfl (fun ls hl => ?_)
          refine lv_iinc (v := v6 + 1) (lv' := [(6, .int (v6 + 1)), (5, .int v5), (4, .int v4), (8, .int 0), (0, .ref (g.2.2 + 127)), (1, .int w1), (2, .int w2), (3, .int w3), (7, .int v28)]) hx hb dX10_take_197 hl (k := 7) rfl rfl (by decide) rfl (fun ls hl => ?_)
          refine lv_goto (tgt := 86) hx hb dX10_take_200 (by decide) ?_
          exact ih v4 v5 (v6 + 1) h _ _ _ hP hS (lv_sub hl [4, 5, 6, 7, 2, 1, 0] rfl)
        · rw [if_neg c35] at h
          refine lv_iconst (v := 1) hx hb dX10_take_162 (by decide) ?_
          refine lv_goto (tgt := 167) hx hb dX10_take_163 (by decide) ?_
          refine lv_istore (lv' := [(8, .int 1), (0, .ref (g.2.2 + 127)), (1, .int w1), (2, .int w2), (3, .int w3), (4, .int v4), (5, .int v5), (6, .int v6), (7, .int v28)]) hx hb dX10_take_167 hl (by decide) rfl (fun ls hl => ?_)
          refine lv_iload hx hb dX10_take_169 (lv_at hl 0 rfl) ?_
          refine lv_if_eq (tgt := 179) hx hb dX10_take_171 (by decide) (fun c38 => absurd c38 (by decide)) (fun _ => ?_)
          refine lv_iload hx hb dX10_take_174 (lv_at hl 7 rfl) ?_
          refine lv_goto (tgt := 181) hx hb dX10_take_176 (by decide) ?_
          refine lv_istore (lv' := [(4, .int v6), (8, .int 1), (0, .ref (g.2.2 + 127)), (1, .int w1), (2, .int w2), (3, .int w3), (5, .int v5), (6, .int v6), (7, .int v28)]) hx hb dX10_take_181 hl (by decide) rfl (fun ls hl => ?_)
          refine lv_iload hx hb dX10_take_183 (lv_at hl 1 rfl) ?_
          refine lv_if_eq (tgt := 193) hx hb dX10_take_185 (by decide) (fun c39 => absurd c39 (by decide)) (fun _ => ?_)
          refine lv_iload hx hb dX10_take_188 (lv_at hl 8 rfl) ?_
          refine lv_goto (tgt := 195) hx hb dX10_take_190 (by decide) ?_
          refine lv_istore (lv' := [(5, .int v28), (4, .int v6), (8, .int 1), (0, .ref (g.2.2 + 127)), (1, .int w1), (2, .int w2), (3, .int w3), (6, .int v6), (7, .int v28)]) hx hb dX10_take_195 hl (by decide) rfl (fun ls hl => ?_)
          refine lv_iinc (v := v6 + 1) (lv' := [(6, .int (v6 + 1)), (5, .int v28), (4, .int v6), (8, .int 1), (0, .ref (g.2.2 + 127)), (1, .int w1), (2, .int w2), (3, .int w3), (7, .int v28)]) hx hb dX10_take_197 hl (k := 7) rfl rfl (by decide) rfl (fun ls hl => ?_)
          refine lv_goto (tgt := 86) hx hb dX10_take_200 (by decide) ?_
          exact ih v6 v28 (v6 + 1) h _ _ _ hP hS (lv_sub hl [4, 5, 6, 7, 2, 1, 0] rfl)
set_option maxHeartbeats 4000000 in
set_option maxRecDepth 100000 in
theorem c_X10_take (l : Launch) (g : tm_G) (A : Nat → Prop) (L : List Nat) (hD : ∀ M, va_D A (tm_ws g L M)) (hF : ∀ o, tm_all o → o ∈ L) (M : tm_M) (p1 : Int32) (p2 : Int32) (p3 : Int32) (R0 : Int32 × tm_M) (h : f_X10_take M p1 p2 p3 = some R0) : Met l yX10_take wsX10_take { frames := 5, cells := 0, slots := 0, locals := 115 } (tm_PC g A L M [.ref (g.2.2 + 127), .int p1, .int p2, .int p3]) (tm_QI g A L R0) 0 0 A := by
  refine tm_start (cc := cX10_take) (nL := 10) (ret := (some .int)) (F := tm_all) (plainFor_of_name (by decide)) rfl (Nat.le_of_ble_eq_true rfl) hD hF (fun p e s m args below meth c ls C0 hP hS hl => ?_)
  have hl : lv_has ls 10 [(0, .ref (g.2.2 + 127)), (1, .int p1), (2, .int p2), (3, .int p3)] := hl
  have C0 : tm_C p m c cX10_take 10 s args wsX10_take RX10 meth (some .int) g A L tm_all := C0
  obtain ⟨⟨hx, hb, hml, hown, hts⟩, hr, hlk, hK, hD, hG, hF⟩ := id C0
  unfold f_X10_take at h
  refine lv_iload_n hx hb dX10_take_0 rfl (lv_at hl 1 rfl) ?_
  refine lv_iconst (v := 0) hx hb dX10_take_1 (by decide) ?_
  refine lv_bipush (v := 6) hx hb dX10_take_2 (by decide) ?_
  obtain ⟨r1, e2, h⟩ := tm_bd_some h
  refine tm_backI (r0 := r1) (M0 := M) (fun _ q => q) (tm_callS (As := [.int p1, .int 0, .int 6]) (rest := []) ⟨hx, hb, hml, hown, hts⟩ hK hG hP hS (c_X10_in l g A L hD hF M p1 0 6 r1 e2) (va_cwS 3 hts gX10_take_X10_in rfl rfl rfl (by decide +kernel) ⟨Nat.le_of_ble_eq_true rfl, Nat.le_of_ble_eq_true rfl⟩) rfl hl.1 (lv_room (Nat.le_of_ble_eq_true rfl)) dX10_take_4 ⟨Nat.zero_le _, Nat.zero_le _⟩) hS (fun H locs hP hS => ?_)
  refine lv_if_eq (tgt := 29) hx hb dX10_take_7 (by decide) (fun c3 => ?_) (fun c3 => ?_)
  · rw [if_pos c3] at h
    refine lv_bipush (v := (-3)) hx hb dX10_take_29 (by decide) ?_
    exact tm_iret C0 (Option.some.inj h) hP hS dX10_take_31
  · rw [if_neg c3] at h
    refine lv_iload_n hx hb dX10_take_10 rfl (lv_at hl 2 rfl) ?_
    refine lv_iconst (v := 1) hx hb dX10_take_11 (by decide) ?_
    refine lv_bipush (v := 60) hx hb dX10_take_12 (by decide) ?_
    obtain ⟨r4, e5, h⟩ := tm_bd_some h
    refine tm_backI (r0 := r4) (M0 := M) (fun _ q => q) (tm_callS (As := [.int p2, .int 1, .int 60]) (rest := []) ⟨hx, hb, hml, hown, hts⟩ hK hG hP hS (c_X10_in l g A L hD hF M p2 1 60 r4 e5) (va_cwS 3 hts gX10_take_X10_in rfl rfl rfl (by decide +kernel) ⟨Nat.le_of_ble_eq_true rfl, Nat.le_of_ble_eq_true rfl⟩) rfl hl.1 (lv_room (Nat.le_of_ble_eq_true rfl)) dX10_take_14 ⟨Nat.zero_le _, Nat.zero_le _⟩) hS (fun H locs hP hS => ?_)
    refine lv_if_eq (tgt := 29) hx hb dX10_take_17 (by decide) (fun c6 => ?_) (fun c6 => ?_)
    · rw [if_pos c6] at h
      refine lv_bipush (v := (-3)) hx hb dX10_take_29 (by decide) ?_
      exact tm_iret C0 (Option.some.inj h) hP hS dX10_take_31
    · rw [if_neg c6] at h
      refine lv_iload_n hx hb dX10_take_20 rfl (lv_at hl 3 rfl) ?_
      refine lv_iconst (v := 0) hx hb dX10_take_21 (by decide) ?_
      refine lv_iconst (v := 1) hx hb dX10_take_22 (by decide) ?_
      obtain ⟨r7, e8, h⟩ := tm_bd_some h
      refine tm_backI (r0 := r7) (M0 := M) (fun _ q => q) (tm_callS (As := [.int p3, .int 0, .int 1]) (rest := []) ⟨hx, hb, hml, hown, hts⟩ hK hG hP hS (c_X10_in l g A L hD hF M p3 0 1 r7 e8) (va_cwS 3 hts gX10_take_X10_in rfl rfl rfl (by decide +kernel) ⟨Nat.le_of_ble_eq_true rfl, Nat.le_of_ble_eq_true rfl⟩) rfl hl.1 (lv_room (Nat.le_of_ble_eq_true rfl)) dX10_take_23 ⟨Nat.zero_le _, Nat.zero_le _⟩) hS (fun H locs hP hS => ?_)
      refine lv_if_ne (tgt := 32) hx hb dX10_take_26 (by decide) (fun c9 => ?_) (fun c9 => ?_)
      · rw [if_neg c9] at h
        refine lv_iload_n hx hb dX10_take_32 rfl (lv_at hl 1 rfl) ?_
        refine lv_aload_n hx hb dX10_take_33 rfl (lv_at hl 0 rfl) ?_
        refine tm_get (C := RX10) (T := TX10) (N := 23) (v := .int (M 127 7)) hx hb hts nX10_take_X10 hown hK hP (hF 127 (by decide)) (tm_mkX10 (by decide) _) rfl 7 (by decide) (hts _ kX10_take_0) rfl dX10_take_34 ?_
        refine lv_icmp_le (tgt := 42) hx hb dX10_take_37 (by decide) (fun c10 => ?_) (fun c10 => ?_)
        · rw [if_pos c10] at h
          refine lv_aload_n hx hb dX10_take_42 rfl (lv_at hl 0 rfl) ?_
          refine lv_iconst (v := 0) hx hb dX10_take_43 (by decide) ?_
          obtain ⟨M13, e12, h⟩ := tm_bd_some h
          refine tm_backV (M0 := M13) (fun _ q => q) (tm_callV (As := [.int 0]) (rest := []) ⟨hx, hb, hml, hown, hts⟩ hK hG hP hS (c_X10_layTried l g A L hD hF M 0 M13 e12) (cwV 1 hts gX10_take_X10_layTried rfl rfl rfl (by decide +kernel) ⟨Nat.le_of_ble_eq_true rfl, Nat.le_of_ble_eq_true rfl⟩) (tm_recv hK hP (hF 127 (by decide)) (ci := 9) rfl (tm_mkX10 (by decide) _)) rfl hl.1 (lv_room (Nat.le_of_ble_eq_true rfl)) dX10_take_44 ⟨Nat.zero_le _, Nat.zero_le _⟩) hS (fun H locs hP hS => ?_)
          refine lv_iconst (v := 0) hx hb dX10_take_47 (by decide) ?_
          refine lv_istore (lv' := [(4, .int 0), (0, .ref (g.2.2 + 127)), (1, .int p1), (2, .int p2), (3, .int p3)]) hx hb dX10_take_48 hl (by decide) rfl (fun ls hl => ?_)
          refine w_X10_take_L50 C0 p1 p2 p3 _ R0 (fun v19 M20 h H locs ls hP hS hl => ?_) 1000 0 M13 h _ _ _ hP hS (lv_sub hl [1, 2, 3, 4, 0] rfl)
          refine lv_iconst (v := (-1)) hx hb dX10_take_76 (by decide) ?_
          refine lv_istore (lv' := [(4, .int (-1)), (0, .ref (g.2.2 + 127)), (1, .int p1), (2, .int p2), (3, .int p3)]) hx hb dX10_take_77 hl (by decide) rfl (fun ls hl => ?_)
          refine lv_bipush (v := 9) hx hb dX10_take_79 (by decide) ?_
          refine lv_istore (lv' := [(5, .int 9), (4, .int (-1)), (0, .ref (g.2.2 + 127)), (1, .int p1), (2, .int p2), (3, .int p3)]) hx hb dX10_take_81 hl (by decide) rfl (fun ls hl => ?_)
          refine lv_iconst (v := 0) hx hb dX10_take_83 (by decide) ?_
          refine lv_istore (lv' := [(6, .int 0), (5, .int 9), (4, .int (-1)), (0, .ref (g.2.2 + 127)), (1, .int p1), (2, .int p2), (3, .int p3)]) hx hb dX10_take_84 hl (by decide) rfl (fun ls hl => ?_)
          refine w_X10_take_L86 C0 M20 p1 p2 p3 _ R0 (fun v40 v41 v42 h H locs ls hP hS hl => ?_) 1000 (-1) 9 0 h _ _ _ hP hS (lv_sub hl [3, 4, 5, 6, 2, 1, 0] rfl)
          refine lv_iload_n hx hb dX10_take_203 rfl (lv_at hl 3 rfl) ?_
          refine lv_if_ne (tgt := 212) hx hb dX10_take_204 (by decide) (fun c43 => ?_) (fun c43 => ?_)
          · rw [if_neg c43] at h
            refine lv_iload hx hb dX10_take_212 (lv_at hl 5 rfl) ?_
            exact tm_iret C0 (Option.some.inj h) hP hS dX10_take_214
          · rw [if_pos c43] at h
            refine lv_iload hx hb dX10_take_207 (lv_at hl 4 rfl) ?_
            refine lv_goto (tgt := 214) hx hb dX10_take_209 (by decide) ?_
            exact tm_iret C0 (Option.some.inj h) hP hS dX10_take_214
        · rw [if_neg c10] at h
          refine lv_iconst (v := (-1)) hx hb dX10_take_40 (by decide) ?_
          exact tm_iret C0 (Option.some.inj h) hP hS dX10_take_41
      · rw [if_pos c9] at h
        refine lv_bipush (v := (-3)) hx hb dX10_take_29 (by decide) ?_
        exact tm_iret C0 (Option.some.inj h) hP hS dX10_take_31
/-! X10_seen -/
theorem nX10_seen_X10 : ∀ w ∈ wsX100, w ∈ wsX10_seen := by decide +kernel
theorem kX10_seen_0 : Cond.fieldLink RX10 66 "QuarrelDeskModel" "seenMany" "I" ∈ wsX10_seen := by decide +kernel
theorem kX10_seen_1 : Cond.fieldLink RX10 44 "QuarrelDeskModel" "sights" "[I" ∈ wsX10_seen := by decide +kernel
def f_X10_seen (M : tm_M) (p1 : Int32) (p2 : Int32) (p3 : Int32) : Option (Int32 × tm_M) :=
  (f_X10_isCouple M p1).bind fun r1 =>
  if r1 = 0 then
    some ((-2), M)
  else
    (f_X10_in p2 1 30).bind fun r4 =>
    if r4 = 0 then
      some ((-3), M)
    else
      (f_X10_in p3 0 99).bind fun r7 =>
      if r7 = 0 then
        some ((-3), M)
      else
        if (M 127 15) = 6 then
          some ((-5), M)
        else
          (tm_wr M 139 18 (3 * (M 127 15)) p1).bind fun M11 =>
          (tm_wr M11 139 18 ((3 * (M11 127 15)) + 1) p2).bind fun M13 =>
          (tm_wr M13 139 18 ((3 * (M13 127 15)) + 2) p3).bind fun M15 =>
          (some (tm_st M15 127 15 ((M15 127 15) + 1))).bind fun M17 =>
          some (M17 127 15, M17)
set_option maxHeartbeats 4000000 in
set_option maxRecDepth 100000 in
theorem c_X10_seen (l : Launch) (g : tm_G) (A : Nat → Prop) (L : List Nat) (hD : ∀ M, va_D A (tm_ws g L M)) (hF : ∀ o, tm_all o → o ∈ L) (M : tm_M) (p1 : Int32) (p2 : Int32) (p3 : Int32) (R0 : Int32 × tm_M) (h : f_X10_seen M p1 p2 p3 = some R0) : Met l yX10_seen wsX10_seen { frames := 2, cells := 0, slots := 0, locals := 43 } (tm_PC g A L M [.ref (g.2.2 + 127), .int p1, .int p2, .int p3]) (tm_QI g A L R0) 0 0 A := by
  refine tm_start (cc := cX10_seen) (nL := 4) (ret := (some .int)) (F := tm_all) (plainFor_of_name (by decide)) rfl (Nat.le_of_ble_eq_true rfl) hD hF (fun p e s m args below meth c ls C0 hP hS hl => ?_)
  have hl : lv_has ls 4 [(0, .ref (g.2.2 + 127)), (1, .int p1), (2, .int p2), (3, .int p3)] := hl
  have C0 : tm_C p m c cX10_seen 4 s args wsX10_seen RX10 meth (some .int) g A L tm_all := C0
  obtain ⟨⟨hx, hb, hml, hown, hts⟩, hr, hlk, hK, hD, hG, hF⟩ := id C0
  unfold f_X10_seen at h
  refine lv_aload_n hx hb dX10_seen_0 rfl (lv_at hl 0 rfl) ?_
  refine lv_iload_n hx hb dX10_seen_1 rfl (lv_at hl 1 rfl) ?_
  obtain ⟨r1, e2, h⟩ := tm_bd_some h
  refine tm_backI (r0 := r1) (M0 := M) (fun _ q => q) (tm_callV (As := [.int p1]) (rest := []) ⟨hx, hb, hml, hown, hts⟩ hK hG hP hS (c_X10_isCouple l g A L hD hF M p1 r1 e2) (cwV 1 hts gX10_seen_X10_isCouple rfl rfl rfl (by decide +kernel) ⟨Nat.le_of_ble_eq_true rfl, Nat.le_of_ble_eq_true rfl⟩) (tm_recv hK hP (hF 127 (by decide)) (ci := 9) rfl (tm_mkX10 (by decide) _)) rfl hl.1 (lv_room (Nat.le_of_ble_eq_true rfl)) dX10_seen_2 ⟨Nat.zero_le _, Nat.zero_le _⟩) hS (fun H locs hP hS => ?_)
  refine lv_if_ne (tgt := 11) hx hb dX10_seen_5 (by decide) (fun c3 => ?_) (fun c3 => ?_)
  · rw [if_neg c3] at h
    refine lv_iload_n hx hb dX10_seen_11 rfl (lv_at hl 2 rfl) ?_
    refine lv_iconst (v := 1) hx hb dX10_seen_12 (by decide) ?_
    refine lv_bipush (v := 30) hx hb dX10_seen_13 (by decide) ?_
    obtain ⟨r4, e5, h⟩ := tm_bd_some h
    refine tm_backI (r0 := r4) (M0 := M) (fun _ q => q) (tm_callS (As := [.int p2, .int 1, .int 30]) (rest := []) ⟨hx, hb, hml, hown, hts⟩ hK hG hP hS (c_X10_in l g A L hD hF M p2 1 30 r4 e5) (va_cwS 3 hts gX10_seen_X10_in rfl rfl rfl (by decide +kernel) ⟨Nat.le_of_ble_eq_true rfl, Nat.le_of_ble_eq_true rfl⟩) rfl hl.1 (lv_room (Nat.le_of_ble_eq_true rfl)) dX10_seen_15 ⟨Nat.zero_le _, Nat.zero_le _⟩) hS (fun H locs hP hS => ?_)
    refine lv_if_eq (tgt := 31) hx hb dX10_seen_18 (by decide) (fun c6 => ?_) (fun c6 => ?_)
    · rw [if_pos c6] at h
      refine lv_bipush (v := (-3)) hx hb dX10_seen_31 (by decide) ?_
      exact tm_iret C0 (Option.some.inj h) hP hS dX10_seen_33
    · rw [if_neg c6] at h
      refine lv_iload_n hx hb dX10_seen_21 rfl (lv_at hl 3 rfl) ?_
      refine lv_iconst (v := 0) hx hb dX10_seen_22 (by decide) ?_
      refine lv_bipush (v := 99) hx hb dX10_seen_23 (by decide) ?_
      obtain ⟨r7, e8, h⟩ := tm_bd_some h
      refine tm_backI (r0 := r7) (M0 := M) (fun _ q => q) (tm_callS (As := [.int p3, .int 0, .int 99]) (rest := []) ⟨hx, hb, hml, hown, hts⟩ hK hG hP hS (c_X10_in l g A L hD hF M p3 0 99 r7 e8) (va_cwS 3 hts gX10_seen_X10_in rfl rfl rfl (by decide +kernel) ⟨Nat.le_of_ble_eq_true rfl, Nat.le_of_ble_eq_true rfl⟩) rfl hl.1 (lv_room (Nat.le_of_ble_eq_true rfl)) dX10_seen_25 ⟨Nat.zero_le _, Nat.zero_le _⟩) hS (fun H locs hP hS => ?_)
      refine lv_if_ne (tgt := 34) hx hb dX10_seen_28 (by decide) (fun c9 => ?_) (fun c9 => ?_)
      · rw [if_neg c9] at h
        refine lv_aload_n hx hb dX10_seen_34 rfl (lv_at hl 0 rfl) ?_
        refine tm_get (C := RX10) (T := TX10) (N := 23) (v := .int (M 127 15)) hx hb hts nX10_seen_X10 hown hK hP (hF 127 (by decide)) (tm_mkX10 (by decide) _) rfl 15 (by decide) (hts _ kX10_seen_0) rfl dX10_seen_35 ?_
        refine lv_bipush (v := 6) hx hb dX10_seen_38 (by decide) ?_
        refine lv_icmp_ne (tgt := 46) hx hb dX10_seen_40 (by decide) (fun c10 => ?_) (fun c10 => ?_)
        · rw [if_neg c10] at h
          refine lv_aload_n hx hb dX10_seen_46 rfl (lv_at hl 0 rfl) ?_
          refine tm_get (C := RX10) (T := TX10) (N := 23) (v := .ref (g.2.2 + 139)) hx hb hts nX10_seen_X10 hown hK hP (hF 127 (by decide)) (tm_mkX10 (by decide) _) rfl 14 (by decide) (hts _ kX10_seen_1) rfl dX10_seen_47 ?_
          refine lv_iconst (v := 3) hx hb dX10_seen_50 (by decide) ?_
          refine lv_aload_n hx hb dX10_seen_51 rfl (lv_at hl 0 rfl) ?_
          refine tm_get (C := RX10) (T := TX10) (N := 23) (v := .int (M 127 15)) hx hb hts nX10_seen_X10 hown hK hP (hF 127 (by decide)) (tm_mkX10 (by decide) _) rfl 15 (by decide) (hts _ kX10_seen_0) rfl dX10_seen_52 ?_
          refine lv_imul hx hb dX10_seen_55 ?_
          refine lv_iload_n hx hb dX10_seen_56 rfl (lv_at hl 1 rfl) ?_
          obtain ⟨M11, e12, h⟩ := tm_bd_some h
          refine tm_iast hx hb hK hP hD hS (hF 139 (by decide)) (tm_mkI (n := 18) (by decide) (by decide)) e12 dX10_seen_57 (fun H locs hP hS => ?_)
          refine lv_aload_n hx hb dX10_seen_58 rfl (lv_at hl 0 rfl) ?_
          refine tm_get (C := RX10) (T := TX10) (N := 23) (v := .ref (g.2.2 + 139)) hx hb hts nX10_seen_X10 hown hK hP (hF 127 (by decide)) (tm_mkX10 (by decide) _) rfl 14 (by decide) (hts _ kX10_seen_1) rfl dX10_seen_59 ?_
          refine lv_iconst (v := 3) hx hb dX10_seen_62 (by decide) ?_
          refine lv_aload_n hx hb dX10_seen_63 rfl (lv_at hl 0 rfl) ?_
          refine tm_get (C := RX10) (T := TX10) (N := 23) (v := .int (M11 127 15)) hx hb hts nX10_seen_X10 hown hK hP (hF 127 (by decide)) (tm_mkX10 (by decide) _) rfl 15 (by decide) (hts _ kX10_seen_0) rfl dX10_seen_64 ?_
          refine lv_imul hx hb dX10_seen_67 ?_
          refine lv_iconst (v := 1) hx hb dX10_seen_68 (by decide) ?_
          refine lv_iadd hx hb dX10_seen_69 ?_
          refine lv_iload_n hx hb dX10_seen_70 rfl (lv_at hl 2 rfl) ?_
          obtain ⟨M13, e14, h⟩ := tm_bd_some h
          refine tm_iast hx hb hK hP hD hS (hF 139 (by decide)) (tm_mkI (n := 18) (by decide) (by decide)) e14 dX10_seen_71 (fun H locs hP hS => ?_)
          refine lv_aload_n hx hb dX10_seen_72 rfl (lv_at hl 0 rfl) ?_
          refine tm_get (C := RX10) (T := TX10) (N := 23) (v := .ref (g.2.2 + 139)) hx hb hts nX10_seen_X10 hown hK hP (hF 127 (by decide)) (tm_mkX10 (by decide) _) rfl 14 (by decide) (hts _ kX10_seen_1) rfl dX10_seen_73 ?_
          refine lv_iconst (v := 3) hx hb dX10_seen_76 (by decide) ?_
          refine lv_aload_n hx hb dX10_seen_77 rfl (lv_at hl 0 rfl) ?_
          refine tm_get (C := RX10) (T := TX10) (N := 23) (v := .int (M13 127 15)) hx hb hts nX10_seen_X10 hown hK hP (hF 127 (by decide)) (tm_mkX10 (by decide) _) rfl 15 (by decide) (hts _ kX10_seen_0) rfl dX10_seen_78 ?_
          refine lv_imul hx hb dX10_seen_81 ?_
          refine lv_iconst (v := 2) hx hb dX10_seen_82 (by decide) ?_
          refine lv_iadd hx hb dX10_seen_83 ?_
          refine lv_iload_n hx hb dX10_seen_84 rfl (lv_at hl 3 rfl) ?_
          obtain ⟨M15, e16, h⟩ := tm_bd_some h
          refine tm_iast hx hb hK hP hD hS (hF 139 (by decide)) (tm_mkI (n := 18) (by decide) (by decide)) e16 dX10_seen_85 (fun H locs hP hS => ?_)
          refine lv_aload_n hx hb dX10_seen_86 rfl (lv_at hl 0 rfl) ?_
          refine lv_dup hx hb dX10_seen_87 rfl ?_
          refine tm_get (C := RX10) (T := TX10) (N := 23) (v := .int (M15 127 15)) hx hb hts nX10_seen_X10 hown hK hP (hF 127 (by decide)) (tm_mkX10 (by decide) _) rfl 15 (by decide) (hts _ kX10_seen_0) rfl dX10_seen_88 ?_
          refine lv_iconst (v := 1) hx hb dX10_seen_91 (by decide) ?_
          refine lv_iadd hx hb dX10_seen_92 ?_
          obtain ⟨M17, e18, h⟩ := tm_bd_some h
          refine tm_put (C := RX10) (T := TX10) (N := 23) (ty := .int) (x := (M15 127 15) + 1) hx hb hts nX10_seen_X10 tyX10 tyX10_ok nmX10 hown hK hP hD hS (hF 127 (by decide)) (tm_mkX10 (by decide)) rfl 15 (by decide) (hts _ kX10_seen_0) rfl (by decide +kernel) rfl rfl (Nat.le_of_ble_eq_true rfl) rfl (Option.some.inj e18) dX10_seen_93 (fun H locs hP hS => ?_)
          refine lv_aload_n hx hb dX10_seen_96 rfl (lv_at hl 0 rfl) ?_
          refine tm_get (C := RX10) (T := TX10) (N := 23) (v := .int (M17 127 15)) hx hb hts nX10_seen_X10 hown hK hP (hF 127 (by decide)) (tm_mkX10 (by decide) _) rfl 15 (by decide) (hts _ kX10_seen_0) rfl dX10_seen_97 ?_
          exact tm_iret C0 (Option.some.inj h) hP hS dX10_seen_100
        · rw [if_pos c10] at h
          refine lv_bipush (v := (-5)) hx hb dX10_seen_43 (by decide) ?_
          exact tm_iret C0 (Option.some.inj h) hP hS dX10_seen_45
      · rw [if_pos c9] at h
        refine lv_bipush (v := (-3)) hx hb dX10_seen_31 (by decide) ?_
        exact tm_iret C0 (Option.some.inj h) hP hS dX10_seen_33
  · rw [if_pos c3] at h
    refine lv_bipush (v := (-2)) hx hb dX10_seen_8 (by decide) ?_
    exact tm_iret C0 (Option.some.inj h) hP hS dX10_seen_10
/-! X10_forget -/
theorem nX10_forget_X10 : ∀ w ∈ wsX100, w ∈ wsX10_forget := by decide +kernel
theorem kX10_forget_0 : Cond.fieldLink RX10 66 "QuarrelDeskModel" "seenMany" "I" ∈ wsX10_forget := by decide +kernel
def f_X10_forget (M : tm_M) : Option (Int32 × tm_M) :=
  (some (M 127 15)).bind fun x1 =>
  (some (tm_st M 127 15 0)).bind fun M2 =>
  some (x1, M2)
set_option maxHeartbeats 4000000 in
set_option maxRecDepth 100000 in
theorem c_X10_forget (l : Launch) (g : tm_G) (A : Nat → Prop) (L : List Nat) (hD : ∀ M, va_D A (tm_ws g L M)) (hF : ∀ o, tm_all o → o ∈ L) (M : tm_M) (R0 : Int32 × tm_M) (h : f_X10_forget M = some R0) : Met l yX10_forget wsX10_forget { frames := 0, cells := 0, slots := 0, locals := 0 } (tm_PC g A L M [.ref (g.2.2 + 127)]) (tm_QI g A L R0) 0 0 A := by
  refine tm_start (cc := cX10_forget) (nL := 2) (ret := (some .int)) (F := tm_all) (plainFor_of_name (by decide)) rfl (Nat.le_of_ble_eq_true rfl) hD hF (fun p e s m args below meth c ls C0 hP hS hl => ?_)
  have hl : lv_has ls 2 [(0, .ref (g.2.2 + 127))] := hl
  have C0 : tm_C p m c cX10_forget 2 s args wsX10_forget RX10 meth (some .int) g A L tm_all := C0
  obtain ⟨⟨hx, hb, hml, hown, hts⟩, hr, hlk, hK, hD, hG, hF⟩ := id C0
  unfold f_X10_forget at h
  refine lv_aload_n hx hb dX10_forget_0 rfl (lv_at hl 0 rfl) ?_
  refine tm_get (C := RX10) (T := TX10) (N := 23) (v := .int (M 127 15)) hx hb hts nX10_forget_X10 hown hK hP (hF 127 (by decide)) (tm_mkX10 (by decide) _) rfl 15 (by decide) (hts _ kX10_forget_0) rfl dX10_forget_1 ?_
  refine tm_nam h (fun x1 h => ?_)
  refine lv_istore_n (lv' := [(1, .int x1), (0, .ref (g.2.2 + 127))]) hx hb dX10_forget_4 rfl hl (by decide) rfl (fun ls hl => ?_)
  refine lv_aload_n hx hb dX10_forget_5 rfl (lv_at hl 1 rfl) ?_
  refine lv_iconst (v := 0) hx hb dX10_forget_6 (by decide) ?_
  obtain ⟨M2, e3, h⟩ := tm_bd_some h
  refine tm_put (C := RX10) (T := TX10) (N := 23) (ty := .int) (x := 0) hx hb hts nX10_forget_X10 tyX10 tyX10_ok nmX10 hown hK hP hD hS (hF 127 (by decide)) (tm_mkX10 (by decide)) rfl 15 (by decide) (hts _ kX10_forget_0) rfl (by decide +kernel) rfl rfl (Nat.le_of_ble_eq_true rfl) rfl (Option.some.inj e3) dX10_forget_7 (fun H locs hP hS => ?_)
  refine lv_iload_n hx hb dX10_forget_10 rfl (lv_at hl 0 rfl) ?_
  exact tm_iret C0 (Option.some.inj h) hP hS dX10_forget_11
/-! X10_isSeenSo -/
theorem nX10_isSeenSo_X10 : ∀ w ∈ wsX100, w ∈ wsX10_isSeenSo := by decide +kernel
theorem kX10_isSeenSo_0 : Cond.fieldLink RX10 66 "QuarrelDeskModel" "seenMany" "I" ∈ wsX10_isSeenSo := by decide +kernel
theorem kX10_isSeenSo_1 : Cond.fieldLink RX10 44 "QuarrelDeskModel" "sights" "[I" ∈ wsX10_isSeenSo := by decide +kernel
theorem kX10_isSeenSo_2 : Cond.fieldLink RX10 22 "QuarrelDeskModel" "row" "[I" ∈ wsX10_isSeenSo := by decide +kernel
def f_X10_isSeenSo_L4 (k : Int32 → Int32 → tm_M → Option (Int32 × tm_M)) (w1 : Int32) : Nat → Int32 → Int32 → tm_M → Option (Int32 × tm_M)
  | 0, _, _, _ => none
  | n + 1, v2, v3, M =>
    if (M 127 15) ≤ v3 then
      k v2 v3 M
    else
      if v2 = 0 then
        k v2 v3 M
      else
        (tm_rd M 139 18 (3 * v3)).bind fun x3 =>
        if x3 = w1 then
          (tm_rd M 139 18 ((3 * v3) + 1)).bind fun x6 =>
          (f_X10_layTried M x6).bind fun M10 =>
          (tm_rd M10 132 672 (623 + w1)).bind fun x11 =>
          (tm_rd M10 139 18 ((3 * v3) + 2)).bind fun x13 =>
          if x11 = x13 then
            f_X10_isSeenSo_L4 k w1 n 1 (v3 + 1) M10
          else
            f_X10_isSeenSo_L4 k w1 n 0 (v3 + 1) M10
        else
          f_X10_isSeenSo_L4 k w1 n v2 (v3 + 1) M
def f_X10_isSeenSo (M : tm_M) (p1 : Int32) : Option (Int32 × tm_M) :=
  f_X10_isSeenSo_L4 (fun v16 v17 M18 =>
    tm_gd (v16 = 0 ∨ v16 = 1) <|
    some (v16, M18)) p1 1000 1 0 M
set_option maxHeartbeats 4000000 in
set_option maxRecDepth 100000 in
theorem w_X10_isSeenSo_L4 {p : Program} {l : Launch} {e : Env} {s : State} {m : MethodId} {args : Array Value} {below : List Frame} {meth : Method} {c : Code} {g : tm_G} {A : Nat → Prop} {L : List Nat} (C0 : tm_C p m c cX10_isSeenSo 4 s args wsX10_isSeenSo RX10 meth (some .boolean) g A L tm_all) (w1 : Int32) (k : Int32 → Int32 → tm_M → Option (Int32 × tm_M)) (R0 : Int32 × tm_M) (hk : ∀ (v2 : Int32) (v3 : Int32) (M : tm_M), k v2 v3 M = some R0 → ∀ (H : Heap) (locs : List Loc) (ls : Array Slot), va_P g.1 vwCl (tm_ws g L M) H → va_S A s.heap H locs → lv_has ls 4 [(0, .ref (g.2.2 + 127)), (1, .int w1), (2, .int v2), (3, .int v3)] → W p l e { frames := 5, cells := 0, slots := 0, locals := 115 } s m args below meth c H locs 0 0 (MQ below (tm_QI g A L R0) args s 0 0 A) (F0 m 77 ls [])) : ∀ (n : Nat) (v2 : Int32) (v3 : Int32) (M : tm_M), f_X10_isSeenSo_L4 k w1 n v2 v3 M = some R0 → ∀ (H : Heap) (locs : List Loc) (ls : Array Slot), va_P g.1 vwCl (tm_ws g L M) H → va_S A s.heap H locs → lv_has ls 4 [(0, .ref (g.2.2 + 127)), (1, .int w1), (2, .int v2), (3, .int v3)] → W p l e { frames := 5, cells := 0, slots := 0, locals := 115 } s m args below meth c H locs 0 0 (MQ below (tm_QI g A L R0) args s 0 0 A) (F0 m 4 ls []) := by
  obtain ⟨⟨hx, hb, hml, hown, hts⟩, hr, hlk, hK, hD, hG, hF⟩ := id C0
  intro n
  induction n with
  | zero =>
    intro v2 v3 M h
    simp [f_X10_isSeenSo_L4] at h
  | succ n ih =>
    intro v2 v3 M h H locs ls hP hS hl
    rw [f_X10_isSeenSo_L4] at h
    refine lv_iload_n hx hb dX10_isSeenSo_4 rfl (lv_at hl 3 rfl) ?_
    refine lv_aload_n hx hb dX10_isSeenSo_5 rfl (lv_at hl 0 rfl) ?_
    refine tm_get (C := RX10) (T := TX10) (N := 23) (v := .int (M 127 15)) hx hb hts nX10_isSeenSo_X10 hown hK hP (hF 127 (by decide)) (tm_mkX10 (by decide) _) rfl 15 (by decide) (hts _ kX10_isSeenSo_0) rfl dX10_isSeenSo_6 ?_
    refine lv_icmp_ge (tgt := 77) hx hb dX10_isSeenSo_9 (by decide) (fun c1 => ?_) (fun c1 => ?_)
    · rw [if_pos c1] at h
      exact hk v2 v3 M h _ _ _ hP hS (lv_sub hl [0, 1, 2, 3] rfl)
    · rw [if_neg c1] at h
      refine lv_iload_n hx hb dX10_isSeenSo_12 rfl (lv_at hl 2 rfl) ?_
      refine lv_if_eq (tgt := 77) hx hb dX10_isSeenSo_13 (by decide) (fun c2 => ?_) (fun c2 => ?_)
      · rw [if_pos c2] at h
        exact hk v2 v3 M h _ _ _ hP hS (lv_sub hl [0, 1, 2, 3] rfl)
      · rw [if_neg c2] at h
        refine lv_aload_n hx hb dX10_isSeenSo_16 rfl (lv_at hl 0 rfl) ?_
        refine tm_get (C := RX10) (T := TX10) (N := 23) (v := .ref (g.2.2 + 139)) hx hb hts nX10_isSeenSo_X10 hown hK hP (hF 127 (by decide)) (tm_mkX10 (by decide) _) rfl 14 (by decide) (hts _ kX10_isSeenSo_1) rfl dX10_isSeenSo_17 ?_
        refine lv_iconst (v := 3) hx hb dX10_isSeenSo_20 (by decide) ?_
        refine lv_iload_n hx hb dX10_isSeenSo_21 rfl (lv_at hl 3 rfl) ?_
        refine lv_imul hx hb dX10_isSeenSo_22 ?_
        obtain ⟨x3, e4, h⟩ := tm_bd_some h
        refine tm_iald hx hb hK hP (hF 139 (by decide)) (tm_mkI (n := 18) (by decide) (by decide)) e4 dX10_isSeenSo_23 ?_
        refine lv_iload_n hx hb dX10_isSeenSo_24 rfl (lv_at hl 1 rfl) ?_
        refine lv_icmp_ne (tgt := 71) hx hb dX10_isSeenSo_25 (by decide) (fun c5 => ?_) (fun c5 => ?_)
        · rw [if_neg c5] at h
          refine lv_iinc (v := v3 + 1) (lv' := [(3, .int (v3 + 1)), (0, .ref (g.2.2 + 127)), (1, .int w1), (2, .int v2)]) hx hb dX10_isSeenSo_71 hl (k := 3) rfl rfl (by decide) rfl (fun ls hl => ?_)
          refine lv_goto (tgt := 4) hx hb dX10_isSeenSo_74 (by decide) ?_
          exact ih v2 (v3 + 1) M h _ _ _ hP hS (lv_sub hl [1, 2, 3, 0] rfl)
        · rw [if_pos c5] at h
          refine lv_aload_n hx hb dX10_isSeenSo_28 rfl (lv_at hl 0 rfl) ?_
          refine lv_aload_n hx hb dX10_isSeenSo_29 rfl (lv_at hl 0 rfl) ?_
          refine tm_get (C := RX10) (T := TX10) (N := 23) (v := .ref (g.2.2 + 139)) hx hb hts nX10_isSeenSo_X10 hown hK hP (hF 127 (by decide)) (tm_mkX10 (by decide) _) rfl 14 (by decide) (hts _ kX10_isSeenSo_1) rfl dX10_isSeenSo_30 ?_
          refine lv_iconst (v := 3) hx hb dX10_isSeenSo_33 (by decide) ?_
          refine lv_iload_n hx hb dX10_isSeenSo_34 rfl (lv_at hl 3 rfl) ?_
          refine lv_imul hx hb dX10_isSeenSo_35 ?_
          refine lv_iconst (v := 1) hx hb dX10_isSeenSo_36 (by decide) ?_
          refine lv_iadd hx hb dX10_isSeenSo_37 ?_
          obtain ⟨x6, e7, h⟩ := tm_bd_some h
          refine tm_iald hx hb hK hP (hF 139 (by decide)) (tm_mkI (n := 18) (by decide) (by decide)) e7 dX10_isSeenSo_38 ?_
          obtain ⟨M10, e9, h⟩ := tm_bd_some h
          refine tm_backV (M0 := M10) (fun _ q => q) (tm_callV (As := [.int x6]) (rest := []) ⟨hx, hb, hml, hown, hts⟩ hK hG hP hS (c_X10_layTried l g A L hD hF M x6 M10 e9) (cwV 1 hts gX10_isSeenSo_X10_layTried rfl rfl rfl (by decide +kernel) ⟨Nat.le_of_ble_eq_true rfl, Nat.le_of_ble_eq_true rfl⟩) (tm_recv hK hP (hF 127 (by decide)) (ci := 9) rfl (tm_mkX10 (by decide) _)) rfl hl.1 (lv_room (Nat.le_of_ble_eq_true rfl)) dX10_isSeenSo_39 ⟨Nat.zero_le _, Nat.zero_le _⟩) hS (fun H locs hP hS => ?_)
          refine lv_aload_n hx hb dX10_isSeenSo_42 rfl (lv_at hl 0 rfl) ?_
          refine tm_get (C := RX10) (T := TX10) (N := 23) (v := .ref (g.2.2 + 132)) hx hb hts nX10_isSeenSo_X10 hown hK hP (hF 127 (by decide)) (tm_mkX10 (by decide) _) rfl 4 (by decide) (hts _ kX10_isSeenSo_2) rfl dX10_isSeenSo_43 ?_
          refine lv_sipush (v := 623) hx hb dX10_isSeenSo_46 (by decide) ?_
          refine lv_iload_n hx hb dX10_isSeenSo_49 rfl (lv_at hl 1 rfl) ?_
          refine lv_iadd hx hb dX10_isSeenSo_50 ?_
          obtain ⟨x11, e12, h⟩ := tm_bd_some h
          refine tm_iald hx hb hK hP (hF 132 (by decide)) (tm_mkI (n := 672) (by decide) (by decide)) e12 dX10_isSeenSo_51 ?_
          refine lv_aload_n hx hb dX10_isSeenSo_52 rfl (lv_at hl 0 rfl) ?_
          refine tm_get (C := RX10) (T := TX10) (N := 23) (v := .ref (g.2.2 + 139)) hx hb hts nX10_isSeenSo_X10 hown hK hP (hF 127 (by decide)) (tm_mkX10 (by decide) _) rfl 14 (by decide) (hts _ kX10_isSeenSo_1) rfl dX10_isSeenSo_53 ?_
          refine lv_iconst (v := 3) hx hb dX10_isSeenSo_56 (by decide) ?_
          refine lv_iload_n hx hb dX10_isSeenSo_57 rfl (lv_at hl 3 rfl) ?_
          refine lv_imul hx hb dX10_isSeenSo_58 ?_
          refine lv_iconst (v := 2) hx hb dX10_isSeenSo_59 (by decide) ?_
          refine lv_iadd hx hb dX10_isSeenSo_60 ?_
          obtain ⟨x13, e14, h⟩ := tm_bd_some h
          refine tm_iald hx hb hK hP (hF 139 (by decide)) (tm_mkI (n := 18) (by decide) (by decide)) e14 dX10_isSeenSo_61 ?_
          refine lv_icmp_ne (tgt := 69) hx hb dX10_isSeenSo_62 (by decide) (fun c15 => ?_) (fun c15 => ?_)
          · rw [if_neg c15] at h
            refine lv_iconst (v := 0) hx hb dX10_isSeenSo_69 (by decide) ?_
            refine lv_istore_n (lv' := [(2, .int 0), (0, .ref (g.2.2 + 127)), (1, .int w1), (3, .int v3)]) hx hb dX10_isSeenSo_70 rfl hl (by decide) rfl (fun ls hl => ?_)
            refine lv_iinc (v := v3 + 1) (lv' := [(3, .int (v3 + 1)), (2, .int 0), (0, .ref (g.2.2 + 127)), (1, .int w1)]) hx hb dX10_isSeenSo_71 hl (k := 3) rfl rfl (by decide) rfl (fun ls hl => ?_)
            refine lv_goto (tgt := 4) hx hb dX10_isSeenSo_74 (by decide) ?_
            exact ih 0 (v3 + 1) M10 h _ _ _ hP hS (lv_sub hl [2, 3, 1, 0] rfl)
          · rw [if_pos c15] at h
            refine lv_iconst (v := 1) hx hb dX10_isSeenSo_65 (by decide) ?_
            refine lv_goto (tgt := 70) hx hb dX10_isSeenSo_66 (by decide) ?_
            refine lv_istore_n (lv' := [(2, .int 1), (0, .ref (g.2.2 + 127)), (1, .int w1), (3, .int v3)]) hx hb dX10_isSeenSo_70 rfl hl (by decide) rfl (fun ls hl => ?_)
            refine lv_iinc (v := v3 + 1) (lv' := [(3, .int (v3 + 1)), (2, .int 1), (0, .ref (g.2.2 + 127)), (1, .int w1)]) hx hb dX10_isSeenSo_71 hl (k := 3) rfl rfl (by decide) rfl (fun ls hl => ?_)
            refine lv_goto (tgt := 4) hx hb dX10_isSeenSo_74 (by decide) ?_
            exact ih 1 (v3 + 1) M10 h _ _ _ hP hS (lv_sub hl [2, 3, 1, 0] rfl)
set_option maxHeartbeats 4000000 in
set_option maxRecDepth 100000 in
theorem c_X10_isSeenSo (l : Launch) (g : tm_G) (A : Nat → Prop) (L : List Nat) (hD : ∀ M, va_D A (tm_ws g L M)) (hF : ∀ o, tm_all o → o ∈ L) (M : tm_M) (p1 : Int32) (R0 : Int32 × tm_M) (h : f_X10_isSeenSo M p1 = some R0) : Met l yX10_isSeenSo wsX10_isSeenSo { frames := 5, cells := 0, slots := 0, locals := 115 } (tm_PC g A L M [.ref (g.2.2 + 127), .int p1]) (tm_QI g A L R0) 0 0 A := by
  refine tm_start (cc := cX10_isSeenSo) (nL := 4) (ret := (some .boolean)) (F := tm_all) (plainFor_of_name (by decide)) rfl (Nat.le_of_ble_eq_true rfl) hD hF (fun p e s m args below meth c ls C0 hP hS hl => ?_)
  have hl : lv_has ls 4 [(0, .ref (g.2.2 + 127)), (1, .int p1)] := hl
  have C0 : tm_C p m c cX10_isSeenSo 4 s args wsX10_isSeenSo RX10 meth (some .boolean) g A L tm_all := C0
  obtain ⟨⟨hx, hb, hml, hown, hts⟩, hr, hlk, hK, hD, hG, hF⟩ := id C0
  unfold f_X10_isSeenSo at h
  refine lv_iconst (v := 1) hx hb dX10_isSeenSo_0 (by decide) ?_
  refine lv_istore_n (lv' := [(2, .int 1), (0, .ref (g.2.2 + 127)), (1, .int p1)]) hx hb dX10_isSeenSo_1 rfl hl (by decide) rfl (fun ls hl => ?_)
  refine lv_iconst (v := 0) hx hb dX10_isSeenSo_2 (by decide) ?_
  refine lv_istore_n (lv' := [(3, .int 0), (2, .int 1), (0, .ref (g.2.2 + 127)), (1, .int p1)]) hx hb dX10_isSeenSo_3 rfl hl (by decide) rfl (fun ls hl => ?_)
  refine w_X10_isSeenSo_L4 C0 p1 _ R0 (fun v16 v17 M18 h H locs ls hP hS hl => ?_) 1000 1 0 M h _ _ _ hP hS (lv_sub hl [2, 3, 1, 0] rfl)
  refine lv_iload_n hx hb dX10_isSeenSo_77 rfl (lv_at hl 2 rfl) ?_
  obtain ⟨g19, h⟩ := tm_gd_some h
  exact tm_zret C0 g19 (Option.some.inj h) hP hS dX10_isSeenSo_78
/-! X10_tempers -/
theorem nX10_tempers_X10 : ∀ w ∈ wsX100, w ∈ wsX10_tempers := by decide +kernel
theorem kX10_tempers_0 : Cond.fieldLink RX10 32 "QuarrelDeskModel" "tempers" "[I" ∈ wsX10_tempers := by decide +kernel
def f_X10_tempers_L23 (k : Int32 → Int32 → tm_M → Option (Int32 × tm_M)) (w1 : Int32) (w2 : Int32) : Nat → Int32 → Int32 → tm_M → Option (Int32 × tm_M)
  | 0, _, _, _ => none
  | n + 1, v3, v4, M =>
    if 10 ≤ v4 then
      k v3 v4 M
    else
      (tm_wr M 135 6 w1 v4).bind fun M7 =>
      (f_X10_isSeenSo M7 w1).bind fun r9 =>
      if r9.1 = 0 then
        (some (v3 ||| 0)).bind fun x12 =>
        f_X10_tempers_L23 k w1 w2 n x12 (v4 + 1) r9.2
      else
        (some (v3 ||| (1 <<< (v4 &&& 31)))).bind fun x13 =>
        f_X10_tempers_L23 k w1 w2 n x13 (v4 + 1) r9.2
def f_X10_tempers (M : tm_M) (p1 : Int32) : Option (Int32 × tm_M) :=
  (f_X10_isCouple M p1).bind fun r1 =>
  if r1 = 0 then
    some ((-2), M)
  else
    (tm_rd M 135 6 p1).bind fun x4 =>
    f_X10_tempers_L23 (fun v14 v15 M16 =>
      (tm_wr M16 135 6 p1 x4).bind fun M17 =>
      some (v14, M17)) p1 x4 1000 0 1 M
set_option maxHeartbeats 4000000 in
set_option maxRecDepth 100000 in
theorem w_X10_tempers_L23 {p : Program} {l : Launch} {e : Env} {s : State} {m : MethodId} {args : Array Value} {below : List Frame} {meth : Method} {c : Code} {g : tm_G} {A : Nat → Prop} {L : List Nat} (C0 : tm_C p m c cX10_tempers 5 s args wsX10_tempers RX10 meth (some .int) g A L tm_all) (w1 : Int32) (w2 : Int32) (k : Int32 → Int32 → tm_M → Option (Int32 × tm_M)) (R0 : Int32 × tm_M) (hk : ∀ (v3 : Int32) (v4 : Int32) (M : tm_M), k v3 v4 M = some R0 → ∀ (H : Heap) (locs : List Loc) (ls : Array Slot), va_P g.1 vwCl (tm_ws g L M) H → va_S A s.heap H locs → lv_has ls 5 [(0, .ref (g.2.2 + 127)), (1, .int w1), (2, .int w2), (3, .int v3), (4, .int v4)] → W p l e { frames := 6, cells := 0, slots := 0, locals := 138 } s m args below meth c H locs 0 0 (MQ below (tm_QI g A L R0) args s 0 0 A) (F0 m 63 ls [])) : ∀ (n : Nat) (v3 : Int32) (v4 : Int32) (M : tm_M), f_X10_tempers_L23 k w1 w2 n v3 v4 M = some R0 → ∀ (H : Heap) (locs : List Loc) (ls : Array Slot), va_P g.1 vwCl (tm_ws g L M) H → va_S A s.heap H locs → lv_has ls 5 [(0, .ref (g.2.2 + 127)), (1, .int w1), (2, .int w2), (3, .int v3), (4, .int v4)] → W p l e { frames := 6, cells := 0, slots := 0, locals := 138 } s m args below meth c H locs 0 0 (MQ below (tm_QI g A L R0) args s 0 0 A) (F0 m 23 ls []) := by
  obtain ⟨⟨hx, hb, hml, hown, hts⟩, hr, hlk, hK, hD, hG, hF⟩ := id C0
  intro n
  induction n with
  | zero =>
    intro v3 v4 M h
    simp [f_X10_tempers_L23] at h
  | succ n ih =>
    intro v3 v4 M h H locs ls hP hS hl
    rw [f_X10_tempers_L23] at h
    refine lv_iload hx hb dX10_tempers_23 (lv_at hl 4 rfl) ?_
    refine lv_bipush (v := 10) hx hb dX10_tempers_25 (by decide) ?_
    refine lv_icmp_ge (tgt := 63) hx hb dX10_tempers_27 (by decide) (fun c6 => ?_) (fun c6 => ?_)
    · rw [if_pos c6] at h
      exact hk v3 v4 M h _ _ _ hP hS (lv_sub hl [0, 1, 2, 3, 4] rfl)
    · rw [if_neg c6] at h
      refine lv_aload_n hx hb dX10_tempers_30 rfl (lv_at hl 0 rfl) ?_
      refine tm_get (C := RX10) (T := TX10) (N := 23) (v := .ref (g.2.2 + 135)) hx hb hts nX10_tempers_X10 hown hK hP (hF 127 (by decide)) (tm_mkX10 (by decide) _) rfl 9 (by decide) (hts _ kX10_tempers_0) rfl dX10_tempers_31 ?_
      refine lv_iload_n hx hb dX10_tempers_34 rfl (lv_at hl 1 rfl) ?_
      refine lv_iload hx hb dX10_tempers_35 (lv_at hl 4 rfl) ?_
      obtain ⟨M7, e8, h⟩ := tm_bd_some h
      refine tm_iast hx hb hK hP hD hS (hF 135 (by decide)) (tm_mkI (n := 6) (by decide) (by decide)) e8 dX10_tempers_37 (fun H locs hP hS => ?_)
      refine lv_iload_n hx hb dX10_tempers_38 rfl (lv_at hl 3 rfl) ?_
      refine lv_aload_n hx hb dX10_tempers_39 rfl (lv_at hl 0 rfl) ?_
      refine lv_iload_n hx hb dX10_tempers_40 rfl (lv_at hl 1 rfl) ?_
      obtain ⟨r9, e10, h⟩ := tm_bd_some h
      refine tm_backI (r0 := r9.1) (M0 := r9.2) (fun _ q => q) (tm_callV (As := [.int w1]) (rest := [.int v3]) ⟨hx, hb, hml, hown, hts⟩ hK hG hP hS (c_X10_isSeenSo l g A L hD hF M7 w1 r9 e10) (cwV 1 hts gX10_tempers_X10_isSeenSo rfl rfl rfl (by decide +kernel) ⟨Nat.le_of_ble_eq_true rfl, Nat.le_of_ble_eq_true rfl⟩) (tm_recv hK hP (hF 127 (by decide)) (ci := 9) rfl (tm_mkX10 (by decide) _)) rfl hl.1 (lv_room (Nat.le_of_ble_eq_true rfl)) dX10_tempers_41 ⟨Nat.zero_le _, Nat.zero_le _⟩) hS (fun H locs hP hS => ?_)
      refine lv_if_eq (tgt := 54) hx hb dX10_tempers_44 (by decide) (fun c11 => ?_) (fun c11 => ?_)
      · rw [if_pos c11] at h
        refine lv_iconst (v := 0) hx hb dX10_tempers_54 (by decide) ?_
        refine lv_ior hx hb dX10_tempers_55 ?_
        refine tm_nam h (fun x12 h => ?_)
        refine lv_istore_n (lv' := [(3, .int x12), (0, .ref (g.2.2 + 127)), (1, .int w1), (2, .int w2), (4, .int v4)]) hx hb dX10_tempers_56 rfl hl (by decide) rfl (fun ls hl => ?_)
        refine lv_iinc (v := v4 + 1) (lv' := [(4, .int (v4 + 1)), (3, .int x12), (0, .ref (g.2.2 + 127)), (1, .int w1), (2, .int w2)]) hx hb dX10_tempers_57 hl (k := 4) rfl rfl (by decide) rfl (fun ls hl => ?_)
        refine lv_goto (tgt := 23) hx hb dX10_tempers_60 (by decide) ?_
        exact ih x12 (v4 + 1) r9.2 h _ _ _ hP hS (lv_sub hl [2, 3, 4, 1, 0] rfl)
      · rw [if_neg c11] at h
        refine lv_iconst (v := 1) hx hb dX10_tempers_47 (by decide) ?_
        refine lv_iload hx hb dX10_tempers_48 (lv_at hl 4 rfl) ?_
        refine lv_ishl hx hb dX10_tempers_50 ?_
        refine lv_goto (tgt := 55) hx hb dX10_tempers_51 (by decide) ?_
        refine lv_ior hx hb dX10_tempers_55 ?_
        refine tm_nam h (fun x13 h => ?_)
        refine lv_istore_n (lv' := [(3, .int x13), (0, .ref (g.2.2 + 127)), (1, .int w1), (2, .int w2), (4, .int v4)]) hx hb dX10_tempers_56 rfl hl (by decide) rfl (fun ls hl => ?_)
        refine lv_iinc (v := v4 + 1) (lv' := [(4, .int (v4 + 1)), (3, .int x13), (0, .ref (g.2.2 + 127)), (1, .int w1), (2, .int w2)]) hx hb dX10_tempers_57 hl (k := 4) rfl rfl (by decide) rfl (fun ls hl => ?_)
        refine lv_goto (tgt := 23) hx hb dX10_tempers_60 (by decide) ?_
        exact ih x13 (v4 + 1) r9.2 h _ _ _ hP hS (lv_sub hl [2, 3, 4, 1, 0] rfl)
set_option maxHeartbeats 4000000 in
set_option maxRecDepth 100000 in
theorem c_X10_tempers (l : Launch) (g : tm_G) (A : Nat → Prop) (L : List Nat) (hD : ∀ M, va_D A (tm_ws g L M)) (hF : ∀ o, tm_all o → o ∈ L) (M : tm_M) (p1 : Int32) (R0 : Int32 × tm_M) (h : f_X10_tempers M p1 = some R0) : Met l yX10_tempers wsX10_tempers { frames := 6, cells := 0, slots := 0, locals := 138 } (tm_PC g A L M [.ref (g.2.2 + 127), .int p1]) (tm_QI g A L R0) 0 0 A := by
  refine tm_start (cc := cX10_tempers) (nL := 5) (ret := (some .int)) (F := tm_all) (plainFor_of_name (by decide)) rfl (Nat.le_of_ble_eq_true rfl) hD hF (fun p e s m args below meth c ls C0 hP hS hl => ?_)
  have hl : lv_has ls 5 [(0, .ref (g.2.2 + 127)), (1, .int p1)] := hl
  have C0 : tm_C p m c cX10_tempers 5 s args wsX10_tempers RX10 meth (some .int) g A L tm_all := C0
  obtain ⟨⟨hx, hb, hml, hown, hts⟩, hr, hlk, hK, hD, hG, hF⟩ := id C0
  unfold f_X10_tempers at h
  refine lv_aload_n hx hb dX10_tempers_0 rfl (lv_at hl 0 rfl) ?_
  refine lv_iload_n hx hb dX10_tempers_1 rfl (lv_at hl 1 rfl) ?_
  obtain ⟨r1, e2, h⟩ := tm_bd_some h
  refine tm_backI (r0 := r1) (M0 := M) (fun _ q => q) (tm_callV (As := [.int p1]) (rest := []) ⟨hx, hb, hml, hown, hts⟩ hK hG hP hS (c_X10_isCouple l g A L hD hF M p1 r1 e2) (cwV 1 hts gX10_tempers_X10_isCouple rfl rfl rfl (by decide +kernel) ⟨Nat.le_of_ble_eq_true rfl, Nat.le_of_ble_eq_true rfl⟩) (tm_recv hK hP (hF 127 (by decide)) (ci := 9) rfl (tm_mkX10 (by decide) _)) rfl hl.1 (lv_room (Nat.le_of_ble_eq_true rfl)) dX10_tempers_2 ⟨Nat.zero_le _, Nat.zero_le _⟩) hS (fun H locs hP hS => ?_)
  refine lv_if_ne (tgt := 11) hx hb dX10_tempers_5 (by decide) (fun c3 => ?_) (fun c3 => ?_)
  · rw [if_neg c3] at h
    refine lv_aload_n hx hb dX10_tempers_11 rfl (lv_at hl 0 rfl) ?_
    refine tm_get (C := RX10) (T := TX10) (N := 23) (v := .ref (g.2.2 + 135)) hx hb hts nX10_tempers_X10 hown hK hP (hF 127 (by decide)) (tm_mkX10 (by decide) _) rfl 9 (by decide) (hts _ kX10_tempers_0) rfl dX10_tempers_12 ?_
    refine lv_iload_n hx hb dX10_tempers_15 rfl (lv_at hl 1 rfl) ?_
    obtain ⟨x4, e5, h⟩ := tm_bd_some h
    refine tm_iald hx hb hK hP (hF 135 (by decide)) (tm_mkI (n := 6) (by decide) (by decide)) e5 dX10_tempers_16 ?_
    refine lv_istore_n (lv' := [(2, .int x4), (0, .ref (g.2.2 + 127)), (1, .int p1)]) hx hb dX10_tempers_17 rfl hl (by decide) rfl (fun ls hl => ?_)
    refine lv_iconst (v := 0) hx hb dX10_tempers_18 (by decide) ?_
    refine lv_istore_n (lv' := [(3, .int 0), (2, .int x4), (0, .ref (g.2.2 + 127)), (1, .int p1)]) hx hb dX10_tempers_19 rfl hl (by decide) rfl (fun ls hl => ?_)
    refine lv_iconst (v := 1) hx hb dX10_tempers_20 (by decide) ?_
    refine lv_istore (lv' := [(4, .int 1), (3, .int 0), (2, .int x4), (0, .ref (g.2.2 + 127)), (1, .int p1)]) hx hb dX10_tempers_21 hl (by decide) rfl (fun ls hl => ?_)
    refine w_X10_tempers_L23 C0 p1 x4 _ R0 (fun v14 v15 M16 h H locs ls hP hS hl => ?_) 1000 0 1 M h _ _ _ hP hS (lv_sub hl [3, 4, 2, 1, 0] rfl)
    refine lv_aload_n hx hb dX10_tempers_63 rfl (lv_at hl 0 rfl) ?_
    refine tm_get (C := RX10) (T := TX10) (N := 23) (v := .ref (g.2.2 + 135)) hx hb hts nX10_tempers_X10 hown hK hP (hF 127 (by decide)) (tm_mkX10 (by decide) _) rfl 9 (by decide) (hts _ kX10_tempers_0) rfl dX10_tempers_64 ?_
    refine lv_iload_n hx hb dX10_tempers_67 rfl (lv_at hl 1 rfl) ?_
    refine lv_iload_n hx hb dX10_tempers_68 rfl (lv_at hl 2 rfl) ?_
    obtain ⟨M17, e18, h⟩ := tm_bd_some h
    refine tm_iast hx hb hK hP hD hS (hF 135 (by decide)) (tm_mkI (n := 6) (by decide) (by decide)) e18 dX10_tempers_69 (fun H locs hP hS => ?_)
    refine lv_iload_n hx hb dX10_tempers_70 rfl (lv_at hl 3 rfl) ?_
    exact tm_iret C0 (Option.some.inj h) hP hS dX10_tempers_71
  · rw [if_pos c3] at h
    refine lv_bipush (v := (-2)) hx hb dX10_tempers_8 (by decide) ?_
    exact tm_iret C0 (Option.some.inj h) hP hS dX10_tempers_10
