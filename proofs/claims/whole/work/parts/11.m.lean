/-! X10_readsCouple -/
theorem nX10_readsCouple_X10 : ∀ w ∈ wsX100, w ∈ wsX10_readsCouple := by decide +kernel
theorem kX10_readsCouple_0 : Cond.fieldLink RX10 95 "QuarrelDeskModel" "readMany" "I" ∈ wsX10_readsCouple := by decide +kernel
theorem kX10_readsCouple_1 : Cond.fieldLink RX10 47 "QuarrelDeskModel" "readCouples" "[I" ∈ wsX10_readsCouple := by decide +kernel
def f_X10_readsCouple (M : tm_M) (p1 : Int32) : Option (Int32 × tm_M) :=
  if (M 127 18) = 6 then
    some (0, M)
  else
    (f_X10_number M 1 9).bind fun r2 =>
    (some r2.1).bind fun x4 =>
    if x4 = (-1) then
      some (0, r2.2)
    else
      (f_X10_number r2.2 0 99).bind fun r6 =>
      (some r6.1).bind fun x8 =>
      if x8 = (-1) then
        some (0, r6.2)
      else
        (tm_wr r6.2 140 18 (3 * (r6.2 127 18)) p1).bind fun M10 =>
        (tm_wr M10 140 18 ((3 * (M10 127 18)) + 1) x4).bind fun M12 =>
        (tm_wr M12 140 18 ((3 * (M12 127 18)) + 2) x8).bind fun M14 =>
        (some (tm_st M14 127 18 ((M14 127 18) + 1))).bind fun M16 =>
        some (1, M16)
set_option maxHeartbeats 4000000 in
set_option maxRecDepth 100000 in
theorem c_X10_readsCouple (l : Launch) (g : tm_G) (A : Nat → Prop) (L : List Nat) (hD : ∀ M, va_D A (tm_ws g L M)) (hF : ∀ o, tm_all o → o ∈ L) (M : tm_M) (p1 : Int32) (R0 : Int32 × tm_M) (h : f_X10_readsCouple M p1 = some R0) : Met l yX10_readsCouple wsX10_readsCouple { frames := 4, cells := 0, slots := 0, locals := 86 } (tm_PC g A L M [.ref (g.2.2 + 127), .int p1]) (tm_QI g A L R0) 0 0 A := by
  refine tm_start (cc := cX10_readsCouple) (nL := 4) (ret := (some .boolean)) (F := tm_all) (plainFor_of_name (by decide)) rfl (Nat.le_of_ble_eq_true rfl) hD hF (fun p e s m args below meth c ls C0 hP hS hl => ?_)
  have hl : lv_has ls 4 [(0, .ref (g.2.2 + 127)), (1, .int p1)] := hl
  have C0 : tm_C p m c cX10_readsCouple 4 s args wsX10_readsCouple RX10 meth (some .boolean) g A L tm_all := C0
  obtain ⟨⟨hx, hb, hml, hown, hts⟩, hr, hlk, hK, hD, hG, hF⟩ := id C0
  unfold f_X10_readsCouple at h
  refine lv_aload_n hx hb dX10_readsCouple_0 rfl (lv_at hl 0 rfl) ?_
  refine tm_get (C := RX10) (T := TX10) (N := 23) (v := .int (M 127 18)) hx hb hts nX10_readsCouple_X10 hown hK hP (hF 127 (by decide)) (tm_mkX10 (by decide) _) rfl 18 (by decide) (hts _ kX10_readsCouple_0) rfl dX10_readsCouple_1 ?_
  refine lv_bipush (v := 6) hx hb dX10_readsCouple_4 (by decide) ?_
  refine lv_icmp_ne (tgt := 11) hx hb dX10_readsCouple_6 (by decide) (fun c1 => ?_) (fun c1 => ?_)
  · rw [if_neg c1] at h
    refine lv_aload_n hx hb dX10_readsCouple_11 rfl (lv_at hl 0 rfl) ?_
    refine lv_iconst (v := 1) hx hb dX10_readsCouple_12 (by decide) ?_
    refine lv_bipush (v := 9) hx hb dX10_readsCouple_13 (by decide) ?_
    obtain ⟨r2, e3, h⟩ := tm_bd_some h
    refine tm_backI (r0 := r2.1) (M0 := r2.2) (fun _ q => q) (tm_callV (As := [.int 1, .int 9]) (rest := []) ⟨hx, hb, hml, hown, hts⟩ hK hG hP hS (c_X10_number l g A L hD hF M 1 9 r2 e3) (cwV 2 hts gX10_readsCouple_X10_number rfl rfl rfl (by decide +kernel) ⟨Nat.le_of_ble_eq_true rfl, Nat.le_of_ble_eq_true rfl⟩) (tm_recv hK hP (hF 127 (by decide)) (ci := 9) rfl (tm_mkX10 (by decide) _)) rfl hl.1 (lv_room (Nat.le_of_ble_eq_true rfl)) dX10_readsCouple_15 ⟨Nat.zero_le _, Nat.zero_le _⟩) hS (fun H locs hP hS => ?_)
    refine tm_nam h (fun x4 h => ?_)
    refine lv_istore_n (lv' := [(2, .int x4), (0, .ref (g.2.2 + 127)), (1, .int p1)]) hx hb dX10_readsCouple_18 rfl hl (by decide) rfl (fun ls hl => ?_)
    refine lv_iload_n hx hb dX10_readsCouple_19 rfl (lv_at hl 0 rfl) ?_
    refine lv_iconst (v := (-1)) hx hb dX10_readsCouple_20 (by decide) ?_
    refine lv_icmp_ne (tgt := 28) hx hb dX10_readsCouple_21 (by decide) (fun c5 => ?_) (fun c5 => ?_)
    · rw [if_neg c5] at h
      refine lv_aload_n hx hb dX10_readsCouple_28 rfl (lv_at hl 1 rfl) ?_
      refine lv_iconst (v := 0) hx hb dX10_readsCouple_29 (by decide) ?_
      refine lv_bipush (v := 99) hx hb dX10_readsCouple_30 (by decide) ?_
      obtain ⟨r6, e7, h⟩ := tm_bd_some h
      refine tm_backI (r0 := r6.1) (M0 := r6.2) (fun _ q => q) (tm_callV (As := [.int 0, .int 99]) (rest := []) ⟨hx, hb, hml, hown, hts⟩ hK hG hP hS (c_X10_number l g A L hD hF r2.2 0 99 r6 e7) (cwV 2 hts gX10_readsCouple_X10_number rfl rfl rfl (by decide +kernel) ⟨Nat.le_of_ble_eq_true rfl, Nat.le_of_ble_eq_true rfl⟩) (tm_recv hK hP (hF 127 (by decide)) (ci := 9) rfl (tm_mkX10 (by decide) _)) rfl hl.1 (lv_room (Nat.le_of_ble_eq_true rfl)) dX10_readsCouple_32 ⟨Nat.zero_le _, Nat.zero_le _⟩) hS (fun H locs hP hS => ?_)
      refine tm_nam h (fun x8 h => ?_)
      refine lv_istore_n (lv' := [(3, .int x8), (2, .int x4), (0, .ref (g.2.2 + 127)), (1, .int p1)]) hx hb dX10_readsCouple_35 rfl hl (by decide) rfl (fun ls hl => ?_)
      refine lv_iload_n hx hb dX10_readsCouple_36 rfl (lv_at hl 0 rfl) ?_
      refine lv_iconst (v := (-1)) hx hb dX10_readsCouple_37 (by decide) ?_
      refine lv_icmp_ne (tgt := 43) hx hb dX10_readsCouple_38 (by decide) (fun c9 => ?_) (fun c9 => ?_)
      · rw [if_neg c9] at h
        refine lv_aload_n hx hb dX10_readsCouple_43 rfl (lv_at hl 2 rfl) ?_
        refine tm_get (C := RX10) (T := TX10) (N := 23) (v := .ref (g.2.2 + 140)) hx hb hts nX10_readsCouple_X10 hown hK hP (hF 127 (by decide)) (tm_mkX10 (by decide) _) rfl 19 (by decide) (hts _ kX10_readsCouple_1) rfl dX10_readsCouple_44 ?_
        refine lv_iconst (v := 3) hx hb dX10_readsCouple_47 (by decide) ?_
        refine lv_aload_n hx hb dX10_readsCouple_48 rfl (lv_at hl 2 rfl) ?_
        refine tm_get (C := RX10) (T := TX10) (N := 23) (v := .int (r6.2 127 18)) hx hb hts nX10_readsCouple_X10 hown hK hP (hF 127 (by decide)) (tm_mkX10 (by decide) _) rfl 18 (by decide) (hts _ kX10_readsCouple_0) rfl dX10_readsCouple_49 ?_
        refine lv_imul hx hb dX10_readsCouple_52 ?_
        refine lv_iload_n hx hb dX10_readsCouple_53 rfl (lv_at hl 3 rfl) ?_
        obtain ⟨M10, e11, h⟩ := tm_bd_some h
        refine tm_iast hx hb hK hP hD hS (hF 140 (by decide)) (tm_mkI (n := 18) (by decide) (by decide)) e11 dX10_readsCouple_54 (fun H locs hP hS => ?_)
        refine lv_aload_n hx hb dX10_readsCouple_55 rfl (lv_at hl 2 rfl) ?_
        refine tm_get (C := RX10) (T := TX10) (N := 23) (v := .ref (g.2.2 + 140)) hx hb hts nX10_readsCouple_X10 hown hK hP (hF 127 (by decide)) (tm_mkX10 (by decide) _) rfl 19 (by decide) (hts _ kX10_readsCouple_1) rfl dX10_readsCouple_56 ?_
        refine lv_iconst (v := 3) hx hb dX10_readsCouple_59 (by decide) ?_
        refine lv_aload_n hx hb dX10_readsCouple_60 rfl (lv_at hl 2 rfl) ?_
        refine tm_get (C := RX10) (T := TX10) (N := 23) (v := .int (M10 127 18)) hx hb hts nX10_readsCouple_X10 hown hK hP (hF 127 (by decide)) (tm_mkX10 (by decide) _) rfl 18 (by decide) (hts _ kX10_readsCouple_0) rfl dX10_readsCouple_61 ?_
        refine lv_imul hx hb dX10_readsCouple_64 ?_
        refine lv_iconst (v := 1) hx hb dX10_readsCouple_65 (by decide) ?_
        refine lv_iadd hx hb dX10_readsCouple_66 ?_
        refine lv_iload_n hx hb dX10_readsCouple_67 rfl (lv_at hl 1 rfl) ?_
        obtain ⟨M12, e13, h⟩ := tm_bd_some h
        refine tm_iast hx hb hK hP hD hS (hF 140 (by decide)) (tm_mkI (n := 18) (by decide) (by decide)) e13 dX10_readsCouple_68 (fun H locs hP hS => ?_)
        refine lv_aload_n hx hb dX10_readsCouple_69 rfl (lv_at hl 2 rfl) ?_
        refine tm_get (C := RX10) (T := TX10) (N := 23) (v := .ref (g.2.2 + 140)) hx hb hts nX10_readsCouple_X10 hown hK hP (hF 127 (by decide)) (tm_mkX10 (by decide) _) rfl 19 (by decide) (hts _ kX10_readsCouple_1) rfl dX10_readsCouple_70 ?_
        refine lv_iconst (v := 3) hx hb dX10_readsCouple_73 (by decide) ?_
        refine lv_aload_n hx hb dX10_readsCouple_74 rfl (lv_at hl 2 rfl) ?_
        refine tm_get (C := RX10) (T := TX10) (N := 23) (v := .int (M12 127 18)) hx hb hts nX10_readsCouple_X10 hown hK hP (hF 127 (by decide)) (tm_mkX10 (by decide) _) rfl 18 (by decide) (hts _ kX10_readsCouple_0) rfl dX10_readsCouple_75 ?_
        refine lv_imul hx hb dX10_readsCouple_78 ?_
        refine lv_iconst (v := 2) hx hb dX10_readsCouple_79 (by decide) ?_
        refine lv_iadd hx hb dX10_readsCouple_80 ?_
        refine lv_iload_n hx hb dX10_readsCouple_81 rfl (lv_at hl 0 rfl) ?_
        obtain ⟨M14, e15, h⟩ := tm_bd_some h
        refine tm_iast hx hb hK hP hD hS (hF 140 (by decide)) (tm_mkI (n := 18) (by decide) (by decide)) e15 dX10_readsCouple_82 (fun H locs hP hS => ?_)
        refine lv_aload_n hx hb dX10_readsCouple_83 rfl (lv_at hl 2 rfl) ?_
        refine lv_dup hx hb dX10_readsCouple_84 rfl ?_
        refine tm_get (C := RX10) (T := TX10) (N := 23) (v := .int (M14 127 18)) hx hb hts nX10_readsCouple_X10 hown hK hP (hF 127 (by decide)) (tm_mkX10 (by decide) _) rfl 18 (by decide) (hts _ kX10_readsCouple_0) rfl dX10_readsCouple_85 ?_
        refine lv_iconst (v := 1) hx hb dX10_readsCouple_88 (by decide) ?_
        refine lv_iadd hx hb dX10_readsCouple_89 ?_
        obtain ⟨M16, e17, h⟩ := tm_bd_some h
        refine tm_put (C := RX10) (T := TX10) (N := 23) (ty := .int) (x := (M14 127 18) + 1) hx hb hts nX10_readsCouple_X10 tyX10 tyX10_ok nmX10 hown hK hP hD hS (hF 127 (by decide)) (tm_mkX10 (by decide)) rfl 18 (by decide) (hts _ kX10_readsCouple_0) rfl (by decide +kernel) rfl rfl (Nat.le_of_ble_eq_true rfl) rfl (Option.some.inj e17) dX10_readsCouple_90 (fun H locs hP hS => ?_)
        refine lv_iconst (v := 1) hx hb dX10_readsCouple_93 (by decide) ?_
        exact tm_zret C0 (by unfold tm_isB; decide) (Option.some.inj h) hP hS dX10_readsCouple_94
      · rw [if_pos c9] at h
        refine lv_iconst (v := 0) hx hb dX10_readsCouple_41 (by decide) ?_
        exact tm_zret C0 (by unfold tm_isB; decide) (Option.some.inj h) hP hS dX10_readsCouple_42
    · rw [if_pos c5] at h
      refine lv_iconst (v := (-1)) hx hb dX10_readsCouple_24 (by decide) ?_
      refine lv_goto (tgt := 35) hx hb dX10_readsCouple_25 (by decide) ?_
      refine lv_istore_n (lv' := [(3, .int (-1)), (2, .int x4), (0, .ref (g.2.2 + 127)), (1, .int p1)]) hx hb dX10_readsCouple_35 rfl hl (by decide) rfl (fun ls hl => ?_)
      refine lv_iload_n hx hb dX10_readsCouple_36 rfl (lv_at hl 0 rfl) ?_
      refine lv_iconst (v := (-1)) hx hb dX10_readsCouple_37 (by decide) ?_
      refine lv_icmp_ne (tgt := 43) hx hb dX10_readsCouple_38 (by decide) (fun c18 => absurd (by decide) c18) (fun _ => ?_)
      refine lv_iconst (v := 0) hx hb dX10_readsCouple_41 (by decide) ?_
      exact tm_zret C0 (by unfold tm_isB; decide) (Option.some.inj h) hP hS dX10_readsCouple_42
  · rw [if_pos c1] at h
    refine lv_iconst (v := 0) hx hb dX10_readsCouple_9 (by decide) ?_
    exact tm_zret C0 (by unfold tm_isB; decide) (Option.some.inj h) hP hS dX10_readsCouple_10
/-! X10_readsTerm -/
theorem nX10_readsTerm_X10 : ∀ w ∈ wsX100, w ∈ wsX10_readsTerm := by decide +kernel
theorem kX10_readsTerm_0 : Cond.fieldLink RX10 16 "QuarrelDeskModel" "leasts" "[I" ∈ wsX10_readsTerm := by decide +kernel
theorem kX10_readsTerm_1 : Cond.fieldLink RX10 19 "QuarrelDeskModel" "mosts" "[I" ∈ wsX10_readsTerm := by decide +kernel
theorem kX10_readsTerm_2 : Cond.fieldLink RX10 50 "QuarrelDeskModel" "readTerms" "[I" ∈ wsX10_readsTerm := by decide +kernel
def f_X10_readsTerm (M : tm_M) (p1 : Int32) : Option (Int32 × tm_M) :=
  (tm_rd M 130 6 p1).bind fun x1 =>
  (tm_rd M 131 6 p1).bind fun x3 =>
  (f_X10_number M x1 x3).bind fun r5 =>
  (some r5.1).bind fun x7 =>
  (tm_wr r5.2 141 6 p1 x7).bind fun M8 =>
  if x7 = (-1) then
    some (0, M8)
  else
    some (1, M8)
set_option maxHeartbeats 4000000 in
set_option maxRecDepth 100000 in
theorem c_X10_readsTerm (l : Launch) (g : tm_G) (A : Nat → Prop) (L : List Nat) (hD : ∀ M, va_D A (tm_ws g L M)) (hF : ∀ o, tm_all o → o ∈ L) (M : tm_M) (p1 : Int32) (R0 : Int32 × tm_M) (h : f_X10_readsTerm M p1 = some R0) : Met l yX10_readsTerm wsX10_readsTerm { frames := 4, cells := 0, slots := 0, locals := 86 } (tm_PC g A L M [.ref (g.2.2 + 127), .int p1]) (tm_QI g A L R0) 0 0 A := by
  refine tm_start (cc := cX10_readsTerm) (nL := 3) (ret := (some .boolean)) (F := tm_all) (plainFor_of_name (by decide)) rfl (Nat.le_of_ble_eq_true rfl) hD hF (fun p e s m args below meth c ls C0 hP hS hl => ?_)
  have hl : lv_has ls 3 [(0, .ref (g.2.2 + 127)), (1, .int p1)] := hl
  have C0 : tm_C p m c cX10_readsTerm 3 s args wsX10_readsTerm RX10 meth (some .boolean) g A L tm_all := C0
  obtain ⟨⟨hx, hb, hml, hown, hts⟩, hr, hlk, hK, hD, hG, hF⟩ := id C0
  unfold f_X10_readsTerm at h
  refine lv_aload_n hx hb dX10_readsTerm_0 rfl (lv_at hl 0 rfl) ?_
  refine lv_aload_n hx hb dX10_readsTerm_1 rfl (lv_at hl 0 rfl) ?_
  refine tm_get (C := RX10) (T := TX10) (N := 23) (v := .ref (g.2.2 + 130)) hx hb hts nX10_readsTerm_X10 hown hK hP (hF 127 (by decide)) (tm_mkX10 (by decide) _) rfl 2 (by decide) (hts _ kX10_readsTerm_0) rfl dX10_readsTerm_2 ?_
  refine lv_iload_n hx hb dX10_readsTerm_5 rfl (lv_at hl 1 rfl) ?_
  obtain ⟨x1, e2, h⟩ := tm_bd_some h
  refine tm_iald hx hb hK hP (hF 130 (by decide)) (tm_mkI (n := 6) (by decide) (by decide)) e2 dX10_readsTerm_6 ?_
  refine lv_aload_n hx hb dX10_readsTerm_7 rfl (lv_at hl 0 rfl) ?_
  refine tm_get (C := RX10) (T := TX10) (N := 23) (v := .ref (g.2.2 + 131)) hx hb hts nX10_readsTerm_X10 hown hK hP (hF 127 (by decide)) (tm_mkX10 (by decide) _) rfl 3 (by decide) (hts _ kX10_readsTerm_1) rfl dX10_readsTerm_8 ?_
  refine lv_iload_n hx hb dX10_readsTerm_11 rfl (lv_at hl 1 rfl) ?_
  obtain ⟨x3, e4, h⟩ := tm_bd_some h
  refine tm_iald hx hb hK hP (hF 131 (by decide)) (tm_mkI (n := 6) (by decide) (by decide)) e4 dX10_readsTerm_12 ?_
  obtain ⟨r5, e6, h⟩ := tm_bd_some h
  refine tm_backI (r0 := r5.1) (M0 := r5.2) (fun _ q => q) (tm_callV (As := [.int x1, .int x3]) (rest := []) ⟨hx, hb, hml, hown, hts⟩ hK hG hP hS (c_X10_number l g A L hD hF M x1 x3 r5 e6) (cwV 2 hts gX10_readsTerm_X10_number rfl rfl rfl (by decide +kernel) ⟨Nat.le_of_ble_eq_true rfl, Nat.le_of_ble_eq_true rfl⟩) (tm_recv hK hP (hF 127 (by decide)) (ci := 9) rfl (tm_mkX10 (by decide) _)) rfl hl.1 (lv_room (Nat.le_of_ble_eq_true rfl)) dX10_readsTerm_13 ⟨Nat.zero_le _, Nat.zero_le _⟩) hS (fun H locs hP hS => ?_)
  refine tm_nam h (fun x7 h => ?_)
  refine lv_istore_n (lv' := [(2, .int x7), (0, .ref (g.2.2 + 127)), (1, .int p1)]) hx hb dX10_readsTerm_16 rfl hl (by decide) rfl (fun ls hl => ?_)
  refine lv_aload_n hx hb dX10_readsTerm_17 rfl (lv_at hl 1 rfl) ?_
  refine tm_get (C := RX10) (T := TX10) (N := 23) (v := .ref (g.2.2 + 141)) hx hb hts nX10_readsTerm_X10 hown hK hP (hF 127 (by decide)) (tm_mkX10 (by decide) _) rfl 20 (by decide) (hts _ kX10_readsTerm_2) rfl dX10_readsTerm_18 ?_
  refine lv_iload_n hx hb dX10_readsTerm_21 rfl (lv_at hl 2 rfl) ?_
  refine lv_iload_n hx hb dX10_readsTerm_22 rfl (lv_at hl 0 rfl) ?_
  obtain ⟨M8, e9, h⟩ := tm_bd_some h
  refine tm_iast hx hb hK hP hD hS (hF 141 (by decide)) (tm_mkI (n := 6) (by decide) (by decide)) e9 dX10_readsTerm_23 (fun H locs hP hS => ?_)
  refine lv_iload_n hx hb dX10_readsTerm_24 rfl (lv_at hl 0 rfl) ?_
  refine lv_iconst (v := (-1)) hx hb dX10_readsTerm_25 (by decide) ?_
  refine lv_icmp_eq (tgt := 33) hx hb dX10_readsTerm_26 (by decide) (fun c10 => ?_) (fun c10 => ?_)
  · rw [if_pos c10] at h
    refine lv_iconst (v := 0) hx hb dX10_readsTerm_33 (by decide) ?_
    exact tm_zret C0 (by unfold tm_isB; decide) (Option.some.inj h) hP hS dX10_readsTerm_34
  · rw [if_neg c10] at h
    refine lv_iconst (v := 1) hx hb dX10_readsTerm_29 (by decide) ?_
    refine lv_goto (tgt := 34) hx hb dX10_readsTerm_30 (by decide) ?_
    exact tm_zret C0 (by unfold tm_isB; decide) (Option.some.inj h) hP hS dX10_readsTerm_34
/-! X10_readFirst -/
theorem nX10_readFirst_X10 : ∀ w ∈ wsX100, w ∈ wsX10_readFirst := by decide +kernel
theorem kX10_readFirst_0 : Cond.fieldLink RX10 95 "QuarrelDeskModel" "readMany" "I" ∈ wsX10_readFirst := by decide +kernel
theorem kX10_readFirst_1 : Cond.fieldLink RX10 50 "QuarrelDeskModel" "readTerms" "[I" ∈ wsX10_readFirst := by decide +kernel
theorem kX10_readFirst_2 : Cond.fieldLink RX10 13 "QuarrelDeskModel" "firsts" "[I" ∈ wsX10_readFirst := by decide +kernel
def f_X10_readFirst_L7 (k : Int32 → tm_M → Option tm_M) : Nat → Int32 → tm_M → Option tm_M
  | 0, _, _ => none
  | n + 1, v1, M =>
    if 6 ≤ v1 then
      k v1 M
    else
      (tm_rd M 129 6 v1).bind fun x4 =>
      (tm_wr M 141 6 v1 x4).bind fun M6 =>
      f_X10_readFirst_L7 k  n (v1 + 1) M6
def f_X10_readFirst (M : tm_M) : Option tm_M :=
  (some (tm_st M 127 18 0)).bind fun M1 =>
  f_X10_readFirst_L7 (fun v8 M9 =>
    some M9)  1000 0 M1
set_option maxHeartbeats 4000000 in
set_option maxRecDepth 100000 in
theorem w_X10_readFirst_L7 {p : Program} {l : Launch} {e : Env} {s : State} {m : MethodId} {args : Array Value} {below : List Frame} {meth : Method} {c : Code} {g : tm_G} {A : Nat → Prop} {L : List Nat} (C0 : tm_C p m c cX10_readFirst 2 s args wsX10_readFirst RX10 meth none g A L tm_all) (k : Int32 → tm_M → Option tm_M) (M0 : tm_M) (hk : ∀ (v1 : Int32) (M : tm_M), k v1 M = some M0 → ∀ (H : Heap) (locs : List Loc) (ls : Array Slot), va_P g.1 vwCl (tm_ws g L M) H → va_S A s.heap H locs → lv_has ls 2 [(0, .ref (g.2.2 + 127)), (1, .int v1)] → W p l e { frames := 0, cells := 0, slots := 0, locals := 0 } s m args below meth c H locs 0 0 (MQ below (tm_QV g A L M0) args s 0 0 A) (F0 m 31 ls [])) : ∀ (n : Nat) (v1 : Int32) (M : tm_M), f_X10_readFirst_L7 k  n v1 M = some M0 → ∀ (H : Heap) (locs : List Loc) (ls : Array Slot), va_P g.1 vwCl (tm_ws g L M) H → va_S A s.heap H locs → lv_has ls 2 [(0, .ref (g.2.2 + 127)), (1, .int v1)] → W p l e { frames := 0, cells := 0, slots := 0, locals := 0 } s m args below meth c H locs 0 0 (MQ below (tm_QV g A L M0) args s 0 0 A) (F0 m 7 ls []) := by
  obtain ⟨⟨hx, hb, hml, hown, hts⟩, hr, hlk, hK, hD, hG, hF⟩ := id C0
  intro n
  induction n with
  | zero =>
    intro v1 M h
    simp [f_X10_readFirst_L7] at h
  | succ n ih =>
    intro v1 M h H locs ls hP hS hl
    rw [f_X10_readFirst_L7] at h
    refine lv_iload_n hx hb dX10_readFirst_7 rfl (lv_at hl 1 rfl) ?_
    refine lv_bipush (v := 6) hx hb dX10_readFirst_8 (by decide) ?_
    refine lv_icmp_ge (tgt := 31) hx hb dX10_readFirst_10 (by decide) (fun c3 => ?_) (fun c3 => ?_)
    · rw [if_pos c3] at h
      exact hk v1 M h _ _ _ hP hS (lv_sub hl [0, 1] rfl)
    · rw [if_neg c3] at h
      refine lv_aload_n hx hb dX10_readFirst_13 rfl (lv_at hl 0 rfl) ?_
      refine tm_get (C := RX10) (T := TX10) (N := 23) (v := .ref (g.2.2 + 141)) hx hb hts nX10_readFirst_X10 hown hK hP (hF 127 (by decide)) (tm_mkX10 (by decide) _) rfl 20 (by decide) (hts _ kX10_readFirst_1) rfl dX10_readFirst_14 ?_
      refine lv_iload_n hx hb dX10_readFirst_17 rfl (lv_at hl 1 rfl) ?_
      refine lv_aload_n hx hb dX10_readFirst_18 rfl (lv_at hl 0 rfl) ?_
      refine tm_get (C := RX10) (T := TX10) (N := 23) (v := .ref (g.2.2 + 129)) hx hb hts nX10_readFirst_X10 hown hK hP (hF 127 (by decide)) (tm_mkX10 (by decide) _) rfl 1 (by decide) (hts _ kX10_readFirst_2) rfl dX10_readFirst_19 ?_
      refine lv_iload_n hx hb dX10_readFirst_22 rfl (lv_at hl 1 rfl) ?_
      obtain ⟨x4, e5, h⟩ := tm_bd_some h
      refine tm_iald hx hb hK hP (hF 129 (by decide)) (tm_mkI (n := 6) (by decide) (by decide)) e5 dX10_readFirst_23 ?_
      obtain ⟨M6, e7, h⟩ := tm_bd_some h
      refine tm_iast hx hb hK hP hD hS (hF 141 (by decide)) (tm_mkI (n := 6) (by decide) (by decide)) e7 dX10_readFirst_24 (fun H locs hP hS => ?_)
      refine lv_iinc (v := v1 + 1) (lv' := [(1, .int (v1 + 1)), (0, .ref (g.2.2 + 127))]) hx hb dX10_readFirst_25 hl (k := 1) rfl rfl (by decide) rfl (fun ls hl => ?_)
      refine lv_goto (tgt := 7) hx hb dX10_readFirst_28 (by decide) ?_
      exact ih (v1 + 1) M6 h _ _ _ hP hS (lv_sub hl [1, 0] rfl)
set_option maxHeartbeats 4000000 in
set_option maxRecDepth 100000 in
theorem c_X10_readFirst (l : Launch) (g : tm_G) (A : Nat → Prop) (L : List Nat) (hD : ∀ M, va_D A (tm_ws g L M)) (hF : ∀ o, tm_all o → o ∈ L) (M : tm_M) (M0 : tm_M) (h : f_X10_readFirst M = some M0) : Met l yX10_readFirst wsX10_readFirst { frames := 0, cells := 0, slots := 0, locals := 0 } (tm_PC g A L M [.ref (g.2.2 + 127)]) (tm_QV g A L M0) 0 0 A := by
  refine tm_start (cc := cX10_readFirst) (nL := 2) (ret := none) (F := tm_all) (plainFor_of_name (by decide)) rfl (Nat.le_of_ble_eq_true rfl) hD hF (fun p e s m args below meth c ls C0 hP hS hl => ?_)
  have hl : lv_has ls 2 [(0, .ref (g.2.2 + 127))] := hl
  have C0 : tm_C p m c cX10_readFirst 2 s args wsX10_readFirst RX10 meth none g A L tm_all := C0
  obtain ⟨⟨hx, hb, hml, hown, hts⟩, hr, hlk, hK, hD, hG, hF⟩ := id C0
  unfold f_X10_readFirst at h
  refine lv_aload_n hx hb dX10_readFirst_0 rfl (lv_at hl 0 rfl) ?_
  refine lv_iconst (v := 0) hx hb dX10_readFirst_1 (by decide) ?_
  obtain ⟨M1, e2, h⟩ := tm_bd_some h
  refine tm_put (C := RX10) (T := TX10) (N := 23) (ty := .int) (x := 0) hx hb hts nX10_readFirst_X10 tyX10 tyX10_ok nmX10 hown hK hP hD hS (hF 127 (by decide)) (tm_mkX10 (by decide)) rfl 18 (by decide) (hts _ kX10_readFirst_0) rfl (by decide +kernel) rfl rfl (Nat.le_of_ble_eq_true rfl) rfl (Option.some.inj e2) dX10_readFirst_2 (fun H locs hP hS => ?_)
  refine lv_iconst (v := 0) hx hb dX10_readFirst_5 (by decide) ?_
  refine lv_istore_n (lv' := [(1, .int 0), (0, .ref (g.2.2 + 127))]) hx hb dX10_readFirst_6 rfl hl (by decide) rfl (fun ls hl => ?_)
  refine w_X10_readFirst_L7 C0  _ M0 (fun v8 M9 h H locs ls hP hS hl => ?_) 1000 0 M1 h _ _ _ hP hS (lv_sub hl [1, 0] rfl)
  exact tm_vret C0 (Option.some.inj h) hP hS dX10_readFirst_31
/-! X10_readsClause -/
def f_X10_readsClause (M : tm_M) : Option (Int32 × tm_M) :=
  (f_X10_next M).bind fun M3 =>
  (f_X10_word M3).bind fun r4 =>
  if r4 = (-1) then
    some (0, M3)
  else
    if r4 = 0 then
      (f_X10_readFirst M3).bind fun M17 =>
      some (1, M17)
    else
      if 5 ≤ r4 then
        (f_X10_readsTerm M3 (r4 - 5)).bind fun r9 =>
        tm_gd (r9.1 = 0 ∨ r9.1 = 1) <|
        some (r9.1, r9.2)
      else
        (f_X10_readsCouple M3 (r4 - 1)).bind fun r12 =>
        tm_gd (r12.1 = 0 ∨ r12.1 = 1) <|
        some (r12.1, r12.2)
set_option maxHeartbeats 4000000 in
set_option maxRecDepth 100000 in
theorem c_X10_readsClause (l : Launch) (g : tm_G) (A : Nat → Prop) (L : List Nat) (hD : ∀ M, va_D A (tm_ws g L M)) (hF : ∀ o, tm_all o → o ∈ L) (M : tm_M) (R0 : Int32 × tm_M) (h : f_X10_readsClause M = some R0) : Met l yX10_readsClause wsX10_readsClause { frames := 5, cells := 0, slots := 0, locals := 109 } (tm_PC g A L M [.ref (g.2.2 + 127)]) (tm_QI g A L R0) 0 0 A := by
  refine tm_start (cc := cX10_readsClause) (nL := 2) (ret := (some .boolean)) (F := tm_all) (plainFor_of_name (by decide)) rfl (Nat.le_of_ble_eq_true rfl) hD hF (fun p e s m args below meth c ls C0 hP hS hl => ?_)
  have hl : lv_has ls 2 [(0, .ref (g.2.2 + 127))] := hl
  have C0 : tm_C p m c cX10_readsClause 2 s args wsX10_readsClause RX10 meth (some .boolean) g A L tm_all := C0
  obtain ⟨⟨hx, hb, hml, hown, hts⟩, hr, hlk, hK, hD, hG, hF⟩ := id C0
  unfold f_X10_readsClause at h
  refine lv_aload_n hx hb dX10_readsClause_0 rfl (lv_at hl 0 rfl) ?_
  obtain ⟨M3, e2, h⟩ := tm_bd_some h
  refine tm_backV (M0 := M3) (fun _ q => q) (tm_callV (As := []) (rest := []) ⟨hx, hb, hml, hown, hts⟩ hK hG hP hS (c_X10_next l g A L hD hF M M3 e2) (cwV 0 hts gX10_readsClause_X10_next rfl rfl rfl (by decide +kernel) ⟨Nat.le_of_ble_eq_true rfl, Nat.le_of_ble_eq_true rfl⟩) (tm_recv hK hP (hF 127 (by decide)) (ci := 9) rfl (tm_mkX10 (by decide) _)) rfl hl.1 (lv_room (Nat.le_of_ble_eq_true rfl)) dX10_readsClause_1 ⟨Nat.zero_le _, Nat.zero_le _⟩) hS (fun H locs hP hS => ?_)
  refine lv_aload_n hx hb dX10_readsClause_4 rfl (lv_at hl 0 rfl) ?_
  obtain ⟨r4, e5, h⟩ := tm_bd_some h
  refine tm_backI (r0 := r4) (M0 := M3) (fun _ q => q) (tm_callV (As := []) (rest := []) ⟨hx, hb, hml, hown, hts⟩ hK hG hP hS (c_X10_word l g A L hD hF M3 r4 e5) (cwV 0 hts gX10_readsClause_X10_word rfl rfl rfl (by decide +kernel) ⟨Nat.le_of_ble_eq_true rfl, Nat.le_of_ble_eq_true rfl⟩) (tm_recv hK hP (hF 127 (by decide)) (ci := 9) rfl (tm_mkX10 (by decide) _)) rfl hl.1 (lv_room (Nat.le_of_ble_eq_true rfl)) dX10_readsClause_5 ⟨Nat.zero_le _, Nat.zero_le _⟩) hS (fun H locs hP hS => ?_)
  refine lv_istore_n (lv' := [(1, .int r4), (0, .ref (g.2.2 + 127))]) hx hb dX10_readsClause_8 rfl hl (by decide) rfl (fun ls hl => ?_)
  refine lv_iload_n hx hb dX10_readsClause_9 rfl (lv_at hl 0 rfl) ?_
  refine lv_iconst (v := (-1)) hx hb dX10_readsClause_10 (by decide) ?_
  refine lv_icmp_ne (tgt := 16) hx hb dX10_readsClause_11 (by decide) (fun c6 => ?_) (fun c6 => ?_)
  · rw [if_neg c6] at h
    refine lv_iload_n hx hb dX10_readsClause_16 rfl (lv_at hl 0 rfl) ?_
    refine lv_if_ne (tgt := 26) hx hb dX10_readsClause_17 (by decide) (fun c7 => ?_) (fun c7 => ?_)
    · rw [if_neg c7] at h
      refine lv_iload_n hx hb dX10_readsClause_26 rfl (lv_at hl 0 rfl) ?_
      refine lv_iconst (v := 5) hx hb dX10_readsClause_27 (by decide) ?_
      refine lv_icmp_ge (tgt := 41) hx hb dX10_readsClause_28 (by decide) (fun c8 => ?_) (fun c8 => ?_)
      · rw [if_pos c8] at h
        refine lv_aload_n hx hb dX10_readsClause_41 rfl (lv_at hl 1 rfl) ?_
        refine lv_iload_n hx hb dX10_readsClause_42 rfl (lv_at hl 0 rfl) ?_
        refine lv_iconst (v := 5) hx hb dX10_readsClause_43 (by decide) ?_
        refine lv_isub hx hb dX10_readsClause_44 ?_
        obtain ⟨r9, e10, h⟩ := tm_bd_some h
        refine tm_backI (r0 := r9.1) (M0 := r9.2) (fun _ q => q) (tm_callV (As := [.int (r4 - 5)]) (rest := []) ⟨hx, hb, hml, hown, hts⟩ hK hG hP hS (c_X10_readsTerm l g A L hD hF M3 (r4 - 5) r9 e10) (cwV 1 hts gX10_readsClause_X10_readsTerm rfl rfl rfl (by decide +kernel) ⟨Nat.le_of_ble_eq_true rfl, Nat.le_of_ble_eq_true rfl⟩) (tm_recv hK hP (hF 127 (by decide)) (ci := 9) rfl (tm_mkX10 (by decide) _)) rfl hl.1 (lv_room (Nat.le_of_ble_eq_true rfl)) dX10_readsClause_45 ⟨Nat.zero_le _, Nat.zero_le _⟩) hS (fun H locs hP hS => ?_)
        obtain ⟨g11, h⟩ := tm_gd_some h
        exact tm_zret C0 g11 (Option.some.inj h) hP hS dX10_readsClause_48
      · rw [if_neg c8] at h
        refine lv_aload_n hx hb dX10_readsClause_31 rfl (lv_at hl 1 rfl) ?_
        refine lv_iload_n hx hb dX10_readsClause_32 rfl (lv_at hl 0 rfl) ?_
        refine lv_iconst (v := 1) hx hb dX10_readsClause_33 (by decide) ?_
        refine lv_isub hx hb dX10_readsClause_34 ?_
        obtain ⟨r12, e13, h⟩ := tm_bd_some h
        refine tm_backI (r0 := r12.1) (M0 := r12.2) (fun _ q => q) (tm_callV (As := [.int (r4 - 1)]) (rest := []) ⟨hx, hb, hml, hown, hts⟩ hK hG hP hS (c_X10_readsCouple l g A L hD hF M3 (r4 - 1) r12 e13) (cwV 1 hts gX10_readsClause_X10_readsCouple rfl rfl rfl (by decide +kernel) ⟨Nat.le_of_ble_eq_true rfl, Nat.le_of_ble_eq_true rfl⟩) (tm_recv hK hP (hF 127 (by decide)) (ci := 9) rfl (tm_mkX10 (by decide) _)) rfl hl.1 (lv_room (Nat.le_of_ble_eq_true rfl)) dX10_readsClause_35 ⟨Nat.zero_le _, Nat.zero_le _⟩) hS (fun H locs hP hS => ?_)
        refine lv_goto (tgt := 48) hx hb dX10_readsClause_38 (by decide) ?_
        obtain ⟨g14, h⟩ := tm_gd_some h
        exact tm_zret C0 g14 (Option.some.inj h) hP hS dX10_readsClause_48
    · rw [if_pos c7] at h
      refine lv_aload_n hx hb dX10_readsClause_20 rfl (lv_at hl 1 rfl) ?_
      obtain ⟨M17, e16, h⟩ := tm_bd_some h
      refine tm_backV (M0 := M17) (fun _ q => q) (tm_callV (As := []) (rest := []) ⟨hx, hb, hml, hown, hts⟩ hK hG hP hS (c_X10_readFirst l g A L hD hF M3 M17 e16) (cwV 0 hts gX10_readsClause_X10_readFirst rfl rfl rfl (by decide +kernel) ⟨Nat.le_of_ble_eq_true rfl, Nat.le_of_ble_eq_true rfl⟩) (tm_recv hK hP (hF 127 (by decide)) (ci := 9) rfl (tm_mkX10 (by decide) _)) rfl hl.1 (lv_room (Nat.le_of_ble_eq_true rfl)) dX10_readsClause_21 ⟨Nat.zero_le _, Nat.zero_le _⟩) hS (fun H locs hP hS => ?_)
      refine lv_iconst (v := 1) hx hb dX10_readsClause_24 (by decide) ?_
      exact tm_zret C0 (by unfold tm_isB; decide) (Option.some.inj h) hP hS dX10_readsClause_25
  · rw [if_pos c6] at h
    refine lv_iconst (v := 0) hx hb dX10_readsClause_14 (by decide) ?_
    exact tm_zret C0 (by unfold tm_isB; decide) (Option.some.inj h) hP hS dX10_readsClause_15
/-! X10_reads -/
theorem nX10_reads_X10 : ∀ w ∈ wsX100, w ∈ wsX10_reads := by decide +kernel
theorem kX10_reads_0 : Cond.fieldLink RX10 59 "QuarrelDeskModel" "couples" "I" ∈ wsX10_reads := by decide +kernel
theorem kX10_reads_1 : Cond.fieldLink RX10 95 "QuarrelDeskModel" "readMany" "I" ∈ wsX10_reads := by decide +kernel
theorem kX10_reads_2 : Cond.fieldLink RX10 47 "QuarrelDeskModel" "readCouples" "[I" ∈ wsX10_reads := by decide +kernel
theorem kX10_reads_3 : Cond.fieldLink RX10 29 "QuarrelDeskModel" "kinds" "[I" ∈ wsX10_reads := by decide +kernel
theorem kX10_reads_4 : Cond.fieldLink RX10 32 "QuarrelDeskModel" "tempers" "[I" ∈ wsX10_reads := by decide +kernel
theorem kX10_reads_5 : Cond.fieldLink RX10 35 "QuarrelDeskModel" "strains" "[I" ∈ wsX10_reads := by decide +kernel
theorem kX10_reads_6 : Cond.fieldLink RX10 50 "QuarrelDeskModel" "readTerms" "[I" ∈ wsX10_reads := by decide +kernel
theorem kX10_reads_7 : Cond.fieldLink RX10 38 "QuarrelDeskModel" "terms" "[I" ∈ wsX10_reads := by decide +kernel
theorem kX10_reads_8 : Cond.fieldLink RX10 76 "QuarrelDeskModel" "behind" "I" ∈ wsX10_reads := by decide +kernel
theorem kX10_reads_9 : Cond.fieldLink RX10 115 "QuarrelDeskModel" "clauses" "I" ∈ wsX10_reads := by decide +kernel
theorem kX10_reads_10 : Cond.fieldLink RX10 79 "QuarrelDeskModel" "at" "I" ∈ wsX10_reads := by decide +kernel
theorem kX10_reads_11 : Cond.fieldLink RX10 73 "QuarrelDeskModel" "length" "I" ∈ wsX10_reads := by decide +kernel
theorem kX10_reads_12 : Cond.fieldLink RX10 41 "QuarrelDeskModel" "text" "[I" ∈ wsX10_reads := by decide +kernel
def f_X10_reads_L10 (k : Int32 → tm_M → Option (Int32 × tm_M)) : Nat → Int32 → tm_M → Option (Int32 × tm_M)
  | 0, _, _ => none
  | n + 1, v1, M =>
    if (M 127 7) ≤ v1 then
      k v1 M
    else
      (tm_rd M 134 6 v1).bind fun x4 =>
      (tm_wr M 140 18 (3 * v1) x4).bind fun M6 =>
      (tm_rd M6 135 6 v1).bind fun x8 =>
      (tm_wr M6 140 18 ((3 * v1) + 1) x8).bind fun M10 =>
      (tm_rd M10 136 6 v1).bind fun x12 =>
      (tm_wr M10 140 18 ((3 * v1) + 2) x12).bind fun M14 =>
      f_X10_reads_L10 k  n (v1 + 1) M14
def f_X10_reads_L72 (k : Int32 → tm_M → Option (Int32 × tm_M)) : Nat → Int32 → tm_M → Option (Int32 × tm_M)
  | 0, _, _ => none
  | n + 1, v1, M =>
    if 6 ≤ v1 then
      k v1 M
    else
      (tm_rd M 137 6 v1).bind fun x19 =>
      (tm_wr M 141 6 v1 x19).bind fun M21 =>
      f_X10_reads_L72 k  n (v1 + 1) M21
def f_X10_reads_L108 (k : Int32 → tm_M → Option (Int32 × tm_M)) : Nat → Int32 → tm_M → Option (Int32 × tm_M)
  | 0, _, _ => none
  | n + 1, v1, M =>
    if v1 = 0 then
      some (1, M)
    else
      (f_X10_readsClause M).bind fun r30 =>
      if r30.1 = 0 then
        some (0, r30.2)
      else
        (some (tm_st r30.2 127 21 ((r30.2 127 21) + 1))).bind fun M33 =>
        (f_X10_next M33).bind fun M37 =>
        if (M37 127 13) ≤ (M37 127 16) then
          f_X10_reads_L108 k  n 0 M37
        else
          (tm_rd M37 138 160 (M37 127 16)).bind fun x41 =>
          if x41 = 59 then
            if (M37 127 21) = 14 then
              k 1 M37
            else
              f_X10_reads_L108 k  n 1 M37
          else
            k 1 M37
def f_X10_reads (M : tm_M) : Option (Int32 × tm_M) :=
  (some (tm_st M 127 18 (M 127 7))).bind fun M1 =>
  f_X10_reads_L10 (fun v16 M17 =>
    f_X10_reads_L72 (fun v23 M24 =>
      (some (tm_st M24 127 17 0)).bind fun M25 =>
      (some (tm_st M25 127 21 0)).bind fun M27 =>
      f_X10_reads_L108 (fun v45 M46 =>
        some (0, M46))  1000 1 M27)  1000 0 M17)  1000 0 M1
set_option maxHeartbeats 4000000 in
set_option maxRecDepth 100000 in
theorem w_X10_reads_L10 {p : Program} {l : Launch} {e : Env} {s : State} {m : MethodId} {args : Array Value} {below : List Frame} {meth : Method} {c : Code} {g : tm_G} {A : Nat → Prop} {L : List Nat} (C0 : tm_C p m c cX10_reads 2 s args wsX10_reads RX10 meth (some .boolean) g A L tm_all) (k : Int32 → tm_M → Option (Int32 × tm_M)) (R0 : Int32 × tm_M) (hk : ∀ (v1 : Int32) (M : tm_M), k v1 M = some R0 → ∀ (H : Heap) (locs : List Loc) (ls : Array Slot), va_P g.1 vwCl (tm_ws g L M) H → va_S A s.heap H locs → lv_has ls 2 [(0, .ref (g.2.2 + 127)), (1, .int v1)] → W p l e { frames := 6, cells := 0, slots := 0, locals := 130 } s m args below meth c H locs 0 0 (MQ below (tm_QI g A L R0) args s 0 0 A) (F0 m 70 ls [])) : ∀ (n : Nat) (v1 : Int32) (M : tm_M), f_X10_reads_L10 k  n v1 M = some R0 → ∀ (H : Heap) (locs : List Loc) (ls : Array Slot), va_P g.1 vwCl (tm_ws g L M) H → va_S A s.heap H locs → lv_has ls 2 [(0, .ref (g.2.2 + 127)), (1, .int v1)] → W p l e { frames := 6, cells := 0, slots := 0, locals := 130 } s m args below meth c H locs 0 0 (MQ below (tm_QI g A L R0) args s 0 0 A) (F0 m 10 ls []) := by
  obtain ⟨⟨hx, hb, hml, hown, hts⟩, hr, hlk, hK, hD, hG, hF⟩ := id C0
  intro n
  induction n with
  | zero =>
    intro v1 M h
    simp [f_X10_reads_L10] at h
  | succ n ih =>
    intro v1 M h H locs ls hP hS hl
    rw [f_X10_reads_L10] at h
    refine lv_iload_n hx hb dX10_reads_10 rfl (lv_at hl 1 rfl) ?_
    refine lv_aload_n hx hb dX10_reads_11 rfl (lv_at hl 0 rfl) ?_
    refine tm_get (C := RX10) (T := TX10) (N := 23) (v := .int (M 127 7)) hx hb hts nX10_reads_X10 hown hK hP (hF 127 (by decide)) (tm_mkX10 (by decide) _) rfl 7 (by decide) (hts _ kX10_reads_0) rfl dX10_reads_12 ?_
    refine lv_icmp_ge (tgt := 70) hx hb dX10_reads_15 (by decide) (fun c3 => ?_) (fun c3 => ?_)
    · rw [if_pos c3] at h
      exact hk v1 M h _ _ _ hP hS (lv_sub hl [0, 1] rfl)
    · rw [if_neg c3] at h
      refine lv_aload_n hx hb dX10_reads_18 rfl (lv_at hl 0 rfl) ?_
      refine tm_get (C := RX10) (T := TX10) (N := 23) (v := .ref (g.2.2 + 140)) hx hb hts nX10_reads_X10 hown hK hP (hF 127 (by decide)) (tm_mkX10 (by decide) _) rfl 19 (by decide) (hts _ kX10_reads_2) rfl dX10_reads_19 ?_
      refine lv_iconst (v := 3) hx hb dX10_reads_22 (by decide) ?_
      refine lv_iload_n hx hb dX10_reads_23 rfl (lv_at hl 1 rfl) ?_
      refine lv_imul hx hb dX10_reads_24 ?_
      refine lv_aload_n hx hb dX10_reads_25 rfl (lv_at hl 0 rfl) ?_
      refine tm_get (C := RX10) (T := TX10) (N := 23) (v := .ref (g.2.2 + 134)) hx hb hts nX10_reads_X10 hown hK hP (hF 127 (by decide)) (tm_mkX10 (by decide) _) rfl 8 (by decide) (hts _ kX10_reads_3) rfl dX10_reads_26 ?_
      refine lv_iload_n hx hb dX10_reads_29 rfl (lv_at hl 1 rfl) ?_
      obtain ⟨x4, e5, h⟩ := tm_bd_some h
      refine tm_iald hx hb hK hP (hF 134 (by decide)) (tm_mkI (n := 6) (by decide) (by decide)) e5 dX10_reads_30 ?_
      obtain ⟨M6, e7, h⟩ := tm_bd_some h
      refine tm_iast hx hb hK hP hD hS (hF 140 (by decide)) (tm_mkI (n := 18) (by decide) (by decide)) e7 dX10_reads_31 (fun H locs hP hS => ?_)
      refine lv_aload_n hx hb dX10_reads_32 rfl (lv_at hl 0 rfl) ?_
      refine tm_get (C := RX10) (T := TX10) (N := 23) (v := .ref (g.2.2 + 140)) hx hb hts nX10_reads_X10 hown hK hP (hF 127 (by decide)) (tm_mkX10 (by decide) _) rfl 19 (by decide) (hts _ kX10_reads_2) rfl dX10_reads_33 ?_
      refine lv_iconst (v := 3) hx hb dX10_reads_36 (by decide) ?_
      refine lv_iload_n hx hb dX10_reads_37 rfl (lv_at hl 1 rfl) ?_
      refine lv_imul hx hb dX10_reads_38 ?_
      refine lv_iconst (v := 1) hx hb dX10_reads_39 (by decide) ?_
      refine lv_iadd hx hb dX10_reads_40 ?_
      refine lv_aload_n hx hb dX10_reads_41 rfl (lv_at hl 0 rfl) ?_
      refine tm_get (C := RX10) (T := TX10) (N := 23) (v := .ref (g.2.2 + 135)) hx hb hts nX10_reads_X10 hown hK hP (hF 127 (by decide)) (tm_mkX10 (by decide) _) rfl 9 (by decide) (hts _ kX10_reads_4) rfl dX10_reads_42 ?_
      refine lv_iload_n hx hb dX10_reads_45 rfl (lv_at hl 1 rfl) ?_
      obtain ⟨x8, e9, h⟩ := tm_bd_some h
      refine tm_iald hx hb hK hP (hF 135 (by decide)) (tm_mkI (n := 6) (by decide) (by decide)) e9 dX10_reads_46 ?_
      obtain ⟨M10, e11, h⟩ := tm_bd_some h
      refine tm_iast hx hb hK hP hD hS (hF 140 (by decide)) (tm_mkI (n := 18) (by decide) (by decide)) e11 dX10_reads_47 (fun H locs hP hS => ?_)
      refine lv_aload_n hx hb dX10_reads_48 rfl (lv_at hl 0 rfl) ?_
      refine tm_get (C := RX10) (T := TX10) (N := 23) (v := .ref (g.2.2 + 140)) hx hb hts nX10_reads_X10 hown hK hP (hF 127 (by decide)) (tm_mkX10 (by decide) _) rfl 19 (by decide) (hts _ kX10_reads_2) rfl dX10_reads_49 ?_
      refine lv_iconst (v := 3) hx hb dX10_reads_52 (by decide) ?_
      refine lv_iload_n hx hb dX10_reads_53 rfl (lv_at hl 1 rfl) ?_
      refine lv_imul hx hb dX10_reads_54 ?_
      refine lv_iconst (v := 2) hx hb dX10_reads_55 (by decide) ?_
      refine lv_iadd hx hb dX10_reads_56 ?_
      refine lv_aload_n hx hb dX10_reads_57 rfl (lv_at hl 0 rfl) ?_
      refine tm_get (C := RX10) (T := TX10) (N := 23) (v := .ref (g.2.2 + 136)) hx hb hts nX10_reads_X10 hown hK hP (hF 127 (by decide)) (tm_mkX10 (by decide) _) rfl 10 (by decide) (hts _ kX10_reads_5) rfl dX10_reads_58 ?_
      refine lv_iload_n hx hb dX10_reads_61 rfl (lv_at hl 1 rfl) ?_
      obtain ⟨x12, e13, h⟩ := tm_bd_some h
      refine tm_iald hx hb hK hP (hF 136 (by decide)) (tm_mkI (n := 6) (by decide) (by decide)) e13 dX10_reads_62 ?_
      obtain ⟨M14, e15, h⟩ := tm_bd_some h
      refine tm_iast hx hb hK hP hD hS (hF 140 (by decide)) (tm_mkI (n := 18) (by decide) (by decide)) e15 dX10_reads_63 (fun H locs hP hS => ?_)
      refine lv_iinc (v := v1 + 1) (lv' := [(1, .int (v1 + 1)), (0, .ref (g.2.2 + 127))]) hx hb dX10_reads_64 hl (k := 1) rfl rfl (by decide) rfl (fun ls hl => ?_)
      refine lv_goto (tgt := 10) hx hb dX10_reads_67 (by decide) ?_
      exact ih (v1 + 1) M14 h _ _ _ hP hS (lv_sub hl [1, 0] rfl)
set_option maxHeartbeats 4000000 in
set_option maxRecDepth 100000 in
theorem w_X10_reads_L72 {p : Program} {l : Launch} {e : Env} {s : State} {m : MethodId} {args : Array Value} {below : List Frame} {meth : Method} {c : Code} {g : tm_G} {A : Nat → Prop} {L : List Nat} (C0 : tm_C p m c cX10_reads 2 s args wsX10_reads RX10 meth (some .boolean) g A L tm_all) (k : Int32 → tm_M → Option (Int32 × tm_M)) (R0 : Int32 × tm_M) (hk : ∀ (v1 : Int32) (M : tm_M), k v1 M = some R0 → ∀ (H : Heap) (locs : List Loc) (ls : Array Slot), va_P g.1 vwCl (tm_ws g L M) H → va_S A s.heap H locs → lv_has ls 2 [(0, .ref (g.2.2 + 127)), (1, .int v1)] → W p l e { frames := 6, cells := 0, slots := 0, locals := 130 } s m args below meth c H locs 0 0 (MQ below (tm_QI g A L R0) args s 0 0 A) (F0 m 96 ls [])) : ∀ (n : Nat) (v1 : Int32) (M : tm_M), f_X10_reads_L72 k  n v1 M = some R0 → ∀ (H : Heap) (locs : List Loc) (ls : Array Slot), va_P g.1 vwCl (tm_ws g L M) H → va_S A s.heap H locs → lv_has ls 2 [(0, .ref (g.2.2 + 127)), (1, .int v1)] → W p l e { frames := 6, cells := 0, slots := 0, locals := 130 } s m args below meth c H locs 0 0 (MQ below (tm_QI g A L R0) args s 0 0 A) (F0 m 72 ls []) := by
  obtain ⟨⟨hx, hb, hml, hown, hts⟩, hr, hlk, hK, hD, hG, hF⟩ := id C0
  intro n
  induction n with
  | zero =>
    intro v1 M h
    simp [f_X10_reads_L72] at h
  | succ n ih =>
    intro v1 M h H locs ls hP hS hl
    rw [f_X10_reads_L72] at h
    refine lv_iload_n hx hb dX10_reads_72 rfl (lv_at hl 1 rfl) ?_
    refine lv_bipush (v := 6) hx hb dX10_reads_73 (by decide) ?_
    refine lv_icmp_ge (tgt := 96) hx hb dX10_reads_75 (by decide) (fun c18 => ?_) (fun c18 => ?_)
    · rw [if_pos c18] at h
      exact hk v1 M h _ _ _ hP hS (lv_sub hl [0, 1] rfl)
    · rw [if_neg c18] at h
      refine lv_aload_n hx hb dX10_reads_78 rfl (lv_at hl 0 rfl) ?_
      refine tm_get (C := RX10) (T := TX10) (N := 23) (v := .ref (g.2.2 + 141)) hx hb hts nX10_reads_X10 hown hK hP (hF 127 (by decide)) (tm_mkX10 (by decide) _) rfl 20 (by decide) (hts _ kX10_reads_6) rfl dX10_reads_79 ?_
      refine lv_iload_n hx hb dX10_reads_82 rfl (lv_at hl 1 rfl) ?_
      refine lv_aload_n hx hb dX10_reads_83 rfl (lv_at hl 0 rfl) ?_
      refine tm_get (C := RX10) (T := TX10) (N := 23) (v := .ref (g.2.2 + 137)) hx hb hts nX10_reads_X10 hown hK hP (hF 127 (by decide)) (tm_mkX10 (by decide) _) rfl 11 (by decide) (hts _ kX10_reads_7) rfl dX10_reads_84 ?_
      refine lv_iload_n hx hb dX10_reads_87 rfl (lv_at hl 1 rfl) ?_
      obtain ⟨x19, e20, h⟩ := tm_bd_some h
      refine tm_iald hx hb hK hP (hF 137 (by decide)) (tm_mkI (n := 6) (by decide) (by decide)) e20 dX10_reads_88 ?_
      obtain ⟨M21, e22, h⟩ := tm_bd_some h
      refine tm_iast hx hb hK hP hD hS (hF 141 (by decide)) (tm_mkI (n := 6) (by decide) (by decide)) e22 dX10_reads_89 (fun H locs hP hS => ?_)
      refine lv_iinc (v := v1 + 1) (lv' := [(1, .int (v1 + 1)), (0, .ref (g.2.2 + 127))]) hx hb dX10_reads_90 hl (k := 1) rfl rfl (by decide) rfl (fun ls hl => ?_)
      refine lv_goto (tgt := 72) hx hb dX10_reads_93 (by decide) ?_
      exact ih (v1 + 1) M21 h _ _ _ hP hS (lv_sub hl [1, 0] rfl)
set_option maxHeartbeats 4000000 in
set_option maxRecDepth 100000 in
theorem w_X10_reads_L108 {p : Program} {l : Launch} {e : Env} {s : State} {m : MethodId} {args : Array Value} {below : List Frame} {meth : Method} {c : Code} {g : tm_G} {A : Nat → Prop} {L : List Nat} (C0 : tm_C p m c cX10_reads 2 s args wsX10_reads RX10 meth (some .boolean) g A L tm_all) (k : Int32 → tm_M → Option (Int32 × tm_M)) (R0 : Int32 × tm_M) (hk : ∀ (v1 : Int32) (M : tm_M), k v1 M = some R0 → ∀ (H : Heap) (locs : List Loc) (ls : Array Slot), va_P g.1 vwCl (tm_ws g L M) H → va_S A s.heap H locs → lv_has ls 2 [(0, .ref (g.2.2 + 127)), (1, .int v1)] → W p l e { frames := 6, cells := 0, slots := 0, locals := 130 } s m args below meth c H locs 0 0 (MQ below (tm_QI g A L R0) args s 0 0 A) (F0 m 179 ls [])) : ∀ (n : Nat) (v1 : Int32) (M : tm_M), f_X10_reads_L108 k  n v1 M = some R0 → ∀ (H : Heap) (locs : List Loc) (ls : Array Slot), va_P g.1 vwCl (tm_ws g L M) H → va_S A s.heap H locs → lv_has ls 2 [(0, .ref (g.2.2 + 127)), (1, .int v1)] → W p l e { frames := 6, cells := 0, slots := 0, locals := 130 } s m args below meth c H locs 0 0 (MQ below (tm_QI g A L R0) args s 0 0 A) (F0 m 108 ls []) := by
  obtain ⟨⟨hx, hb, hml, hown, hts⟩, hr, hlk, hK, hD, hG, hF⟩ := id C0
  intro n
  induction n with
  | zero =>
    intro v1 M h
    simp [f_X10_reads_L108] at h
  | succ n ih =>
    intro v1 M h H locs ls hP hS hl
    rw [f_X10_reads_L108] at h
    refine lv_iload_n hx hb dX10_reads_108 rfl (lv_at hl 1 rfl) ?_
    refine lv_if_eq (tgt := 181) hx hb dX10_reads_109 (by decide) (fun c29 => ?_) (fun c29 => ?_)
    · rw [if_pos c29] at h
      refine lv_iconst (v := 1) hx hb dX10_reads_181 (by decide) ?_
      exact tm_zret C0 (by unfold tm_isB; decide) (Option.some.inj h) hP hS dX10_reads_182
    · rw [if_neg c29] at h
      refine lv_aload_n hx hb dX10_reads_112 rfl (lv_at hl 0 rfl) ?_
      obtain ⟨r30, e31, h⟩ := tm_bd_some h
      refine tm_backI (r0 := r30.1) (M0 := r30.2) (fun _ q => q) (tm_callV (As := []) (rest := []) ⟨hx, hb, hml, hown, hts⟩ hK hG hP hS (c_X10_readsClause l g A L hD hF M r30 e31) (cwV 0 hts gX10_reads_X10_readsClause rfl rfl rfl (by decide +kernel) ⟨Nat.le_of_ble_eq_true rfl, Nat.le_of_ble_eq_true rfl⟩) (tm_recv hK hP (hF 127 (by decide)) (ci := 9) rfl (tm_mkX10 (by decide) _)) rfl hl.1 (lv_room (Nat.le_of_ble_eq_true rfl)) dX10_reads_113 ⟨Nat.zero_le _, Nat.zero_le _⟩) hS (fun H locs hP hS => ?_)
      refine lv_if_ne (tgt := 121) hx hb dX10_reads_116 (by decide) (fun c32 => ?_) (fun c32 => ?_)
      · rw [if_neg c32] at h
        refine lv_aload_n hx hb dX10_reads_121 rfl (lv_at hl 0 rfl) ?_
        refine lv_dup hx hb dX10_reads_122 rfl ?_
        refine tm_get (C := RX10) (T := TX10) (N := 23) (v := .int (r30.2 127 21)) hx hb hts nX10_reads_X10 hown hK hP (hF 127 (by decide)) (tm_mkX10 (by decide) _) rfl 21 (by decide) (hts _ kX10_reads_9) rfl dX10_reads_123 ?_
        refine lv_iconst (v := 1) hx hb dX10_reads_126 (by decide) ?_
        refine lv_iadd hx hb dX10_reads_127 ?_
        obtain ⟨M33, e34, h⟩ := tm_bd_some h
        refine tm_put (C := RX10) (T := TX10) (N := 23) (ty := .int) (x := (r30.2 127 21) + 1) hx hb hts nX10_reads_X10 tyX10 tyX10_ok nmX10 hown hK hP hD hS (hF 127 (by decide)) (tm_mkX10 (by decide)) rfl 21 (by decide) (hts _ kX10_reads_9) rfl (by decide +kernel) rfl rfl (Nat.le_of_ble_eq_true rfl) rfl (Option.some.inj e34) dX10_reads_128 (fun H locs hP hS => ?_)
        refine lv_aload_n hx hb dX10_reads_131 rfl (lv_at hl 0 rfl) ?_
        obtain ⟨M37, e36, h⟩ := tm_bd_some h
        refine tm_backV (M0 := M37) (fun _ q => q) (tm_callV (As := []) (rest := []) ⟨hx, hb, hml, hown, hts⟩ hK hG hP hS (c_X10_next l g A L hD hF M33 M37 e36) (cwV 0 hts gX10_reads_X10_next rfl rfl rfl (by decide +kernel) ⟨Nat.le_of_ble_eq_true rfl, Nat.le_of_ble_eq_true rfl⟩) (tm_recv hK hP (hF 127 (by decide)) (ci := 9) rfl (tm_mkX10 (by decide) _)) rfl hl.1 (lv_room (Nat.le_of_ble_eq_true rfl)) dX10_reads_132 ⟨Nat.zero_le _, Nat.zero_le _⟩) hS (fun H locs hP hS => ?_)
        refine lv_aload_n hx hb dX10_reads_135 rfl (lv_at hl 0 rfl) ?_
        refine tm_get (C := RX10) (T := TX10) (N := 23) (v := .int (M37 127 16)) hx hb hts nX10_reads_X10 hown hK hP (hF 127 (by decide)) (tm_mkX10 (by decide) _) rfl 16 (by decide) (hts _ kX10_reads_10) rfl dX10_reads_136 ?_
        refine lv_aload_n hx hb dX10_reads_139 rfl (lv_at hl 0 rfl) ?_
        refine tm_get (C := RX10) (T := TX10) (N := 23) (v := .int (M37 127 13)) hx hb hts nX10_reads_X10 hown hK hP (hF 127 (by decide)) (tm_mkX10 (by decide) _) rfl 13 (by decide) (hts _ kX10_reads_11) rfl dX10_reads_140 ?_
        refine lv_icmp_ge (tgt := 150) hx hb dX10_reads_143 (by decide) (fun c38 => ?_) (fun c38 => ?_)
        · rw [if_pos c38] at h
          refine lv_iconst (v := 0) hx hb dX10_reads_150 (by decide) ?_
          refine lv_istore_n (lv' := [(1, .int 0), (0, .ref (g.2.2 + 127))]) hx hb dX10_reads_151 rfl hl (by decide) rfl (fun ls hl => ?_)
          refine lv_iload_n hx hb dX10_reads_152 rfl (lv_at hl 0 rfl) ?_
          refine lv_if_eq (tgt := 108) hx hb dX10_reads_153 (by decide) (fun _ => ?_) (fun c39 => absurd (by decide) c39)
          exact ih 0 M37 h _ _ _ hP hS (lv_sub hl [1, 0] rfl)
        · rw [if_neg c38] at h
          refine lv_iconst (v := 1) hx hb dX10_reads_146 (by decide) ?_
          refine lv_goto (tgt := 151) hx hb dX10_reads_147 (by decide) ?_
          refine lv_istore_n (lv' := [(1, .int 1), (0, .ref (g.2.2 + 127))]) hx hb dX10_reads_151 rfl hl (by decide) rfl (fun ls hl => ?_)
          refine lv_iload_n hx hb dX10_reads_152 rfl (lv_at hl 0 rfl) ?_
          refine lv_if_eq (tgt := 108) hx hb dX10_reads_153 (by decide) (fun c40 => absurd c40 (by decide)) (fun _ => ?_)
          refine lv_aload_n hx hb dX10_reads_156 rfl (lv_at hl 1 rfl) ?_
          refine tm_get (C := RX10) (T := TX10) (N := 23) (v := .ref (g.2.2 + 138)) hx hb hts nX10_reads_X10 hown hK hP (hF 127 (by decide)) (tm_mkX10 (by decide) _) rfl 12 (by decide) (hts _ kX10_reads_12) rfl dX10_reads_157 ?_
          refine lv_aload_n hx hb dX10_reads_160 rfl (lv_at hl 1 rfl) ?_
          refine tm_get (C := RX10) (T := TX10) (N := 23) (v := .int (M37 127 16)) hx hb hts nX10_reads_X10 hown hK hP (hF 127 (by decide)) (tm_mkX10 (by decide) _) rfl 16 (by decide) (hts _ kX10_reads_10) rfl dX10_reads_161 ?_
          obtain ⟨x41, e42, h⟩ := tm_bd_some h
          refine tm_iald hx hb hK hP (hF 138 (by decide)) (tm_mkI (n := 160) (by decide) (by decide)) e42 dX10_reads_164 ?_
          refine lv_bipush (v := 59) hx hb dX10_reads_165 (by decide) ?_
          refine lv_icmp_ne (tgt := 179) hx hb dX10_reads_167 (by decide) (fun c43 => ?_) (fun c43 => ?_)
          · rw [if_neg c43] at h
            exact hk 1 M37 h _ _ _ hP hS (lv_sub hl [1, 0] rfl)
          · rw [if_pos c43] at h
            refine lv_aload_n hx hb dX10_reads_170 rfl (lv_at hl 1 rfl) ?_
            refine tm_get (C := RX10) (T := TX10) (N := 23) (v := .int (M37 127 21)) hx hb hts nX10_reads_X10 hown hK hP (hF 127 (by decide)) (tm_mkX10 (by decide) _) rfl 21 (by decide) (hts _ kX10_reads_9) rfl dX10_reads_171 ?_
            refine lv_bipush (v := 14) hx hb dX10_reads_174 (by decide) ?_
            refine lv_icmp_ne (tgt := 108) hx hb dX10_reads_176 (by decide) (fun c44 => ?_) (fun c44 => ?_)
            · rw [if_neg c44] at h
              exact ih 1 M37 h _ _ _ hP hS (lv_sub hl [1, 0] rfl)
            · rw [if_pos c44] at h
              exact hk 1 M37 h _ _ _ hP hS (lv_sub hl [1, 0] rfl)
      · rw [if_pos c32] at h
        refine lv_iconst (v := 0) hx hb dX10_reads_119 (by decide) ?_
        exact tm_zret C0 (by unfold tm_isB; decide) (Option.some.inj h) hP hS dX10_reads_120
set_option maxHeartbeats 4000000 in
set_option maxRecDepth 100000 in
theorem c_X10_reads (l : Launch) (g : tm_G) (A : Nat → Prop) (L : List Nat) (hD : ∀ M, va_D A (tm_ws g L M)) (hF : ∀ o, tm_all o → o ∈ L) (M : tm_M) (R0 : Int32 × tm_M) (h : f_X10_reads M = some R0) : Met l yX10_reads wsX10_reads { frames := 6, cells := 0, slots := 0, locals := 130 } (tm_PC g A L M [.ref (g.2.2 + 127)]) (tm_QI g A L R0) 0 0 A := by
  refine tm_start (cc := cX10_reads) (nL := 2) (ret := (some .boolean)) (F := tm_all) (plainFor_of_name (by decide)) rfl (Nat.le_of_ble_eq_true rfl) hD hF (fun p e s m args below meth c ls C0 hP hS hl => ?_)
  have hl : lv_has ls 2 [(0, .ref (g.2.2 + 127))] := hl
  have C0 : tm_C p m c cX10_reads 2 s args wsX10_reads RX10 meth (some .boolean) g A L tm_all := C0
  obtain ⟨⟨hx, hb, hml, hown, hts⟩, hr, hlk, hK, hD, hG, hF⟩ := id C0
  unfold f_X10_reads at h
  refine lv_aload_n hx hb dX10_reads_0 rfl (lv_at hl 0 rfl) ?_
  refine lv_aload_n hx hb dX10_reads_1 rfl (lv_at hl 0 rfl) ?_
  refine tm_get (C := RX10) (T := TX10) (N := 23) (v := .int (M 127 7)) hx hb hts nX10_reads_X10 hown hK hP (hF 127 (by decide)) (tm_mkX10 (by decide) _) rfl 7 (by decide) (hts _ kX10_reads_0) rfl dX10_reads_2 ?_
  obtain ⟨M1, e2, h⟩ := tm_bd_some h
  refine tm_put (C := RX10) (T := TX10) (N := 23) (ty := .int) (x := M 127 7) hx hb hts nX10_reads_X10 tyX10 tyX10_ok nmX10 hown hK hP hD hS (hF 127 (by decide)) (tm_mkX10 (by decide)) rfl 18 (by decide) (hts _ kX10_reads_1) rfl (by decide +kernel) rfl rfl (Nat.le_of_ble_eq_true rfl) rfl (Option.some.inj e2) dX10_reads_5 (fun H locs hP hS => ?_)
  refine lv_iconst (v := 0) hx hb dX10_reads_8 (by decide) ?_
  refine lv_istore_n (lv' := [(1, .int 0), (0, .ref (g.2.2 + 127))]) hx hb dX10_reads_9 rfl hl (by decide) rfl (fun ls hl => ?_)
  refine w_X10_reads_L10 C0  _ R0 (fun v16 M17 h H locs ls hP hS hl => ?_) 1000 0 M1 h _ _ _ hP hS (lv_sub hl [1, 0] rfl)
  refine lv_iconst (v := 0) hx hb dX10_reads_70 (by decide) ?_
  refine lv_istore_n (lv' := [(1, .int 0), (0, .ref (g.2.2 + 127))]) hx hb dX10_reads_71 rfl hl (by decide) rfl (fun ls hl => ?_)
  refine w_X10_reads_L72 C0  _ R0 (fun v23 M24 h H locs ls hP hS hl => ?_) 1000 0 M17 h _ _ _ hP hS (lv_sub hl [1, 0] rfl)
  refine lv_aload_n hx hb dX10_reads_96 rfl (lv_at hl 0 rfl) ?_
  refine lv_iconst (v := 0) hx hb dX10_reads_97 (by decide) ?_
  obtain ⟨M25, e26, h⟩ := tm_bd_some h
  refine tm_put (C := RX10) (T := TX10) (N := 23) (ty := .int) (x := 0) hx hb hts nX10_reads_X10 tyX10 tyX10_ok nmX10 hown hK hP hD hS (hF 127 (by decide)) (tm_mkX10 (by decide)) rfl 17 (by decide) (hts _ kX10_reads_8) rfl (by decide +kernel) rfl rfl (Nat.le_of_ble_eq_true rfl) rfl (Option.some.inj e26) dX10_reads_98 (fun H locs hP hS => ?_)
  refine lv_aload_n hx hb dX10_reads_101 rfl (lv_at hl 0 rfl) ?_
  refine lv_iconst (v := 0) hx hb dX10_reads_102 (by decide) ?_
  obtain ⟨M27, e28, h⟩ := tm_bd_some h
  refine tm_put (C := RX10) (T := TX10) (N := 23) (ty := .int) (x := 0) hx hb hts nX10_reads_X10 tyX10 tyX10_ok nmX10 hown hK hP hD hS (hF 127 (by decide)) (tm_mkX10 (by decide)) rfl 21 (by decide) (hts _ kX10_reads_9) rfl (by decide +kernel) rfl rfl (Nat.le_of_ble_eq_true rfl) rfl (Option.some.inj e28) dX10_reads_103 (fun H locs hP hS => ?_)
  refine lv_iconst (v := 1) hx hb dX10_reads_106 (by decide) ?_
  refine lv_istore_n (lv' := [(1, .int 1), (0, .ref (g.2.2 + 127))]) hx hb dX10_reads_107 rfl hl (by decide) rfl (fun ls hl => ?_)
  refine w_X10_reads_L108 C0  _ R0 (fun v45 M46 h H locs ls hP hS hl => ?_) 1000 1 M27 h _ _ _ hP hS (lv_sub hl [1, 0] rfl)
  refine lv_iconst (v := 0) hx hb dX10_reads_179 (by decide) ?_
  exact tm_zret C0 (by unfold tm_isB; decide) (Option.some.inj h) hP hS dX10_reads_180
/-! X10_fault -/
theorem nX10_fault_X10 : ∀ w ∈ wsX100, w ∈ wsX10_fault := by decide +kernel
theorem kX10_fault_0 : Cond.fieldLink RX10 79 "QuarrelDeskModel" "at" "I" ∈ wsX10_fault := by decide +kernel
def f_X10_fault (M : tm_M) : Option (Int32 × tm_M) :=
  (f_X10_reads M).bind fun r1 =>
  if r1.1 = 0 then
    some (r1.2 127 16, r1.2)
  else
    some ((-1), r1.2)
set_option maxHeartbeats 4000000 in
set_option maxRecDepth 100000 in
theorem c_X10_fault (l : Launch) (g : tm_G) (A : Nat → Prop) (L : List Nat) (hD : ∀ M, va_D A (tm_ws g L M)) (hF : ∀ o, tm_all o → o ∈ L) (M : tm_M) (R0 : Int32 × tm_M) (h : f_X10_fault M = some R0) : Met l yX10_fault wsX10_fault { frames := 7, cells := 0, slots := 0, locals := 151 } (tm_PC g A L M [.ref (g.2.2 + 127)]) (tm_QI g A L R0) 0 0 A := by
  refine tm_start (cc := cX10_fault) (nL := 1) (ret := (some .int)) (F := tm_all) (plainFor_of_name (by decide)) rfl (Nat.le_of_ble_eq_true rfl) hD hF (fun p e s m args below meth c ls C0 hP hS hl => ?_)
  have hl : lv_has ls 1 [(0, .ref (g.2.2 + 127))] := hl
  have C0 : tm_C p m c cX10_fault 1 s args wsX10_fault RX10 meth (some .int) g A L tm_all := C0
  obtain ⟨⟨hx, hb, hml, hown, hts⟩, hr, hlk, hK, hD, hG, hF⟩ := id C0
  unfold f_X10_fault at h
  refine lv_aload_n hx hb dX10_fault_0 rfl (lv_at hl 0 rfl) ?_
  obtain ⟨r1, e2, h⟩ := tm_bd_some h
  refine tm_backI (r0 := r1.1) (M0 := r1.2) (fun _ q => q) (tm_callV (As := []) (rest := []) ⟨hx, hb, hml, hown, hts⟩ hK hG hP hS (c_X10_reads l g A L hD hF M r1 e2) (cwV 0 hts gX10_fault_X10_reads rfl rfl rfl (by decide +kernel) ⟨Nat.le_of_ble_eq_true rfl, Nat.le_of_ble_eq_true rfl⟩) (tm_recv hK hP (hF 127 (by decide)) (ci := 9) rfl (tm_mkX10 (by decide) _)) rfl hl.1 (lv_room (Nat.le_of_ble_eq_true rfl)) dX10_fault_1 ⟨Nat.zero_le _, Nat.zero_le _⟩) hS (fun H locs hP hS => ?_)
  refine lv_if_eq (tgt := 11) hx hb dX10_fault_4 (by decide) (fun c3 => ?_) (fun c3 => ?_)
  · rw [if_pos c3] at h
    refine lv_aload_n hx hb dX10_fault_11 rfl (lv_at hl 0 rfl) ?_
    refine tm_get (C := RX10) (T := TX10) (N := 23) (v := .int (r1.2 127 16)) hx hb hts nX10_fault_X10 hown hK hP (hF 127 (by decide)) (tm_mkX10 (by decide) _) rfl 16 (by decide) (hts _ kX10_fault_0) rfl dX10_fault_12 ?_
    exact tm_iret C0 (Option.some.inj h) hP hS dX10_fault_15
  · rw [if_neg c3] at h
    refine lv_iconst (v := (-1)) hx hb dX10_fault_7 (by decide) ?_
    refine lv_goto (tgt := 15) hx hb dX10_fault_8 (by decide) ?_
    exact tm_iret C0 (Option.some.inj h) hP hS dX10_fault_15
/-! X10_desk -/
theorem nX10_desk_X10 : ∀ w ∈ wsX100, w ∈ wsX10_desk := by decide +kernel
theorem kX10_desk_0 : Cond.fieldLink RX10 73 "QuarrelDeskModel" "length" "I" ∈ wsX10_desk := by decide +kernel
theorem kX10_desk_1 : Cond.fieldLink RX10 95 "QuarrelDeskModel" "readMany" "I" ∈ wsX10_desk := by decide +kernel
theorem kX10_desk_2 : Cond.fieldLink RX10 59 "QuarrelDeskModel" "couples" "I" ∈ wsX10_desk := by decide +kernel
theorem kX10_desk_3 : Cond.fieldLink RX10 29 "QuarrelDeskModel" "kinds" "[I" ∈ wsX10_desk := by decide +kernel
theorem kX10_desk_4 : Cond.fieldLink RX10 47 "QuarrelDeskModel" "readCouples" "[I" ∈ wsX10_desk := by decide +kernel
theorem kX10_desk_5 : Cond.fieldLink RX10 32 "QuarrelDeskModel" "tempers" "[I" ∈ wsX10_desk := by decide +kernel
theorem kX10_desk_6 : Cond.fieldLink RX10 35 "QuarrelDeskModel" "strains" "[I" ∈ wsX10_desk := by decide +kernel
theorem kX10_desk_7 : Cond.fieldLink RX10 38 "QuarrelDeskModel" "terms" "[I" ∈ wsX10_desk := by decide +kernel
theorem kX10_desk_8 : Cond.fieldLink RX10 50 "QuarrelDeskModel" "readTerms" "[I" ∈ wsX10_desk := by decide +kernel
theorem kX10_desk_9 : Cond.fieldLink RX10 115 "QuarrelDeskModel" "clauses" "I" ∈ wsX10_desk := by decide +kernel
def f_X10_desk_L25 (k : Int32 → tm_M → Option (Int32 × tm_M)) : Nat → Int32 → tm_M → Option (Int32 × tm_M)
  | 0, _, _ => none
  | n + 1, v1, M =>
    if (M 127 7) ≤ v1 then
      k v1 M
    else
      (tm_rd M 140 18 (3 * v1)).bind fun x9 =>
      (tm_wr M 134 6 v1 x9).bind fun M11 =>
      (tm_rd M11 140 18 ((3 * v1) + 1)).bind fun x13 =>
      (tm_wr M11 135 6 v1 x13).bind fun M15 =>
      (tm_rd M15 140 18 ((3 * v1) + 2)).bind fun x17 =>
      (tm_wr M15 136 6 v1 x17).bind fun M19 =>
      f_X10_desk_L25 k  n (v1 + 1) M19
def f_X10_desk_L87 (k : Int32 → tm_M → Option (Int32 × tm_M)) : Nat → Int32 → tm_M → Option (Int32 × tm_M)
  | 0, _, _ => none
  | n + 1, v1, M =>
    if 6 ≤ v1 then
      k v1 M
    else
      (tm_rd M 141 6 v1).bind fun x24 =>
      (tm_wr M 137 6 v1 x24).bind fun M26 =>
      f_X10_desk_L87 k  n (v1 + 1) M26
def f_X10_desk (M : tm_M) : Option (Int32 × tm_M) :=
  (f_X10_reads M).bind fun r1 =>
  if r1.1 = 0 then
    some ((-4), r1.2)
  else
    (some (tm_st r1.2 127 13 0)).bind fun M4 =>
    (some (tm_st M4 127 7 (M4 127 18))).bind fun M6 =>
    f_X10_desk_L25 (fun v21 M22 =>
      f_X10_desk_L87 (fun v28 M29 =>
        (f_X10_layDesk M29).bind fun M32 =>
        some (M32 127 21, M32))  1000 0 M22)  1000 0 M6
set_option maxHeartbeats 4000000 in
set_option maxRecDepth 100000 in
theorem w_X10_desk_L25 {p : Program} {l : Launch} {e : Env} {s : State} {m : MethodId} {args : Array Value} {below : List Frame} {meth : Method} {c : Code} {g : tm_G} {A : Nat → Prop} {L : List Nat} (C0 : tm_C p m c cX10_desk 2 s args wsX10_desk RX10 meth (some .int) g A L tm_all) (k : Int32 → tm_M → Option (Int32 × tm_M)) (R0 : Int32 × tm_M) (hk : ∀ (v1 : Int32) (M : tm_M), k v1 M = some R0 → ∀ (H : Heap) (locs : List Loc) (ls : Array Slot), va_P g.1 vwCl (tm_ws g L M) H → va_S A s.heap H locs → lv_has ls 2 [(0, .ref (g.2.2 + 127)), (1, .int v1)] → W p l e { frames := 7, cells := 0, slots := 0, locals := 151 } s m args below meth c H locs 0 0 (MQ below (tm_QI g A L R0) args s 0 0 A) (F0 m 85 ls [])) : ∀ (n : Nat) (v1 : Int32) (M : tm_M), f_X10_desk_L25 k  n v1 M = some R0 → ∀ (H : Heap) (locs : List Loc) (ls : Array Slot), va_P g.1 vwCl (tm_ws g L M) H → va_S A s.heap H locs → lv_has ls 2 [(0, .ref (g.2.2 + 127)), (1, .int v1)] → W p l e { frames := 7, cells := 0, slots := 0, locals := 151 } s m args below meth c H locs 0 0 (MQ below (tm_QI g A L R0) args s 0 0 A) (F0 m 25 ls []) := by
  obtain ⟨⟨hx, hb, hml, hown, hts⟩, hr, hlk, hK, hD, hG, hF⟩ := id C0
  intro n
  induction n with
  | zero =>
    intro v1 M h
    simp [f_X10_desk_L25] at h
  | succ n ih =>
    intro v1 M h H locs ls hP hS hl
    rw [f_X10_desk_L25] at h
    refine lv_iload_n hx hb dX10_desk_25 rfl (lv_at hl 1 rfl) ?_
    refine lv_aload_n hx hb dX10_desk_26 rfl (lv_at hl 0 rfl) ?_
    refine tm_get (C := RX10) (T := TX10) (N := 23) (v := .int (M 127 7)) hx hb hts nX10_desk_X10 hown hK hP (hF 127 (by decide)) (tm_mkX10 (by decide) _) rfl 7 (by decide) (hts _ kX10_desk_2) rfl dX10_desk_27 ?_
    refine lv_icmp_ge (tgt := 85) hx hb dX10_desk_30 (by decide) (fun c8 => ?_) (fun c8 => ?_)
    · rw [if_pos c8] at h
      exact hk v1 M h _ _ _ hP hS (lv_sub hl [0, 1] rfl)
    · rw [if_neg c8] at h
      refine lv_aload_n hx hb dX10_desk_33 rfl (lv_at hl 0 rfl) ?_
      refine tm_get (C := RX10) (T := TX10) (N := 23) (v := .ref (g.2.2 + 134)) hx hb hts nX10_desk_X10 hown hK hP (hF 127 (by decide)) (tm_mkX10 (by decide) _) rfl 8 (by decide) (hts _ kX10_desk_3) rfl dX10_desk_34 ?_
      refine lv_iload_n hx hb dX10_desk_37 rfl (lv_at hl 1 rfl) ?_
      refine lv_aload_n hx hb dX10_desk_38 rfl (lv_at hl 0 rfl) ?_
      refine tm_get (C := RX10) (T := TX10) (N := 23) (v := .ref (g.2.2 + 140)) hx hb hts nX10_desk_X10 hown hK hP (hF 127 (by decide)) (tm_mkX10 (by decide) _) rfl 19 (by decide) (hts _ kX10_desk_4) rfl dX10_desk_39 ?_
      refine lv_iconst (v := 3) hx hb dX10_desk_42 (by decide) ?_
      refine lv_iload_n hx hb dX10_desk_43 rfl (lv_at hl 1 rfl) ?_
      refine lv_imul hx hb dX10_desk_44 ?_
      obtain ⟨x9, e10, h⟩ := tm_bd_some h
      refine tm_iald hx hb hK hP (hF 140 (by decide)) (tm_mkI (n := 18) (by decide) (by decide)) e10 dX10_desk_45 ?_
      obtain ⟨M11, e12, h⟩ := tm_bd_some h
      refine tm_iast hx hb hK hP hD hS (hF 134 (by decide)) (tm_mkI (n := 6) (by decide) (by decide)) e12 dX10_desk_46 (fun H locs hP hS => ?_)
      refine lv_aload_n hx hb dX10_desk_47 rfl (lv_at hl 0 rfl) ?_
      refine tm_get (C := RX10) (T := TX10) (N := 23) (v := .ref (g.2.2 + 135)) hx hb hts nX10_desk_X10 hown hK hP (hF 127 (by decide)) (tm_mkX10 (by decide) _) rfl 9 (by decide) (hts _ kX10_desk_5) rfl dX10_desk_48 ?_
      refine lv_iload_n hx hb dX10_desk_51 rfl (lv_at hl 1 rfl) ?_
      refine lv_aload_n hx hb dX10_desk_52 rfl (lv_at hl 0 rfl) ?_
      refine tm_get (C := RX10) (T := TX10) (N := 23) (v := .ref (g.2.2 + 140)) hx hb hts nX10_desk_X10 hown hK hP (hF 127 (by decide)) (tm_mkX10 (by decide) _) rfl 19 (by decide) (hts _ kX10_desk_4) rfl dX10_desk_53 ?_
      refine lv_iconst (v := 3) hx hb dX10_desk_56 (by decide) ?_
      refine lv_iload_n hx hb dX10_desk_57 rfl (lv_at hl 1 rfl) ?_
      refine lv_imul hx hb dX10_desk_58 ?_
      refine lv_iconst (v := 1) hx hb dX10_desk_59 (by decide) ?_
      refine lv_iadd hx hb dX10_desk_60 ?_
      obtain ⟨x13, e14, h⟩ := tm_bd_some h
      refine tm_iald hx hb hK hP (hF 140 (by decide)) (tm_mkI (n := 18) (by decide) (by decide)) e14 dX10_desk_61 ?_
      obtain ⟨M15, e16, h⟩ := tm_bd_some h
      refine tm_iast hx hb hK hP hD hS (hF 135 (by decide)) (tm_mkI (n := 6) (by decide) (by decide)) e16 dX10_desk_62 (fun H locs hP hS => ?_)
      refine lv_aload_n hx hb dX10_desk_63 rfl (lv_at hl 0 rfl) ?_
      refine tm_get (C := RX10) (T := TX10) (N := 23) (v := .ref (g.2.2 + 136)) hx hb hts nX10_desk_X10 hown hK hP (hF 127 (by decide)) (tm_mkX10 (by decide) _) rfl 10 (by decide) (hts _ kX10_desk_6) rfl dX10_desk_64 ?_
      refine lv_iload_n hx hb dX10_desk_67 rfl (lv_at hl 1 rfl) ?_
      refine lv_aload_n hx hb dX10_desk_68 rfl (lv_at hl 0 rfl) ?_
      refine tm_get (C := RX10) (T := TX10) (N := 23) (v := .ref (g.2.2 + 140)) hx hb hts nX10_desk_X10 hown hK hP (hF 127 (by decide)) (tm_mkX10 (by decide) _) rfl 19 (by decide) (hts _ kX10_desk_4) rfl dX10_desk_69 ?_
      refine lv_iconst (v := 3) hx hb dX10_desk_72 (by decide) ?_
      refine lv_iload_n hx hb dX10_desk_73 rfl (lv_at hl 1 rfl) ?_
      refine lv_imul hx hb dX10_desk_74 ?_
      refine lv_iconst (v := 2) hx hb dX10_desk_75 (by decide) ?_
      refine lv_iadd hx hb dX10_desk_76 ?_
      obtain ⟨x17, e18, h⟩ := tm_bd_some h
      refine tm_iald hx hb hK hP (hF 140 (by decide)) (tm_mkI (n := 18) (by decide) (by decide)) e18 dX10_desk_77 ?_
      obtain ⟨M19, e20, h⟩ := tm_bd_some h
      refine tm_iast hx hb hK hP hD hS (hF 136 (by decide)) (tm_mkI (n := 6) (by decide) (by decide)) e20 dX10_desk_78 (fun H locs hP hS => ?_)
      refine lv_iinc (v := v1 + 1) (lv' := [(1, .int (v1 + 1)), (0, .ref (g.2.2 + 127))]) hx hb dX10_desk_79 hl (k := 1) rfl rfl (by decide) rfl (fun ls hl => ?_)
      refine lv_goto (tgt := 25) hx hb dX10_desk_82 (by decide) ?_
      exact ih (v1 + 1) M19 h _ _ _ hP hS (lv_sub hl [1, 0] rfl)
set_option maxHeartbeats 4000000 in
set_option maxRecDepth 100000 in
theorem w_X10_desk_L87 {p : Program} {l : Launch} {e : Env} {s : State} {m : MethodId} {args : Array Value} {below : List Frame} {meth : Method} {c : Code} {g : tm_G} {A : Nat → Prop} {L : List Nat} (C0 : tm_C p m c cX10_desk 2 s args wsX10_desk RX10 meth (some .int) g A L tm_all) (k : Int32 → tm_M → Option (Int32 × tm_M)) (R0 : Int32 × tm_M) (hk : ∀ (v1 : Int32) (M : tm_M), k v1 M = some R0 → ∀ (H : Heap) (locs : List Loc) (ls : Array Slot), va_P g.1 vwCl (tm_ws g L M) H → va_S A s.heap H locs → lv_has ls 2 [(0, .ref (g.2.2 + 127)), (1, .int v1)] → W p l e { frames := 7, cells := 0, slots := 0, locals := 151 } s m args below meth c H locs 0 0 (MQ below (tm_QI g A L R0) args s 0 0 A) (F0 m 111 ls [])) : ∀ (n : Nat) (v1 : Int32) (M : tm_M), f_X10_desk_L87 k  n v1 M = some R0 → ∀ (H : Heap) (locs : List Loc) (ls : Array Slot), va_P g.1 vwCl (tm_ws g L M) H → va_S A s.heap H locs → lv_has ls 2 [(0, .ref (g.2.2 + 127)), (1, .int v1)] → W p l e { frames := 7, cells := 0, slots := 0, locals := 151 } s m args below meth c H locs 0 0 (MQ below (tm_QI g A L R0) args s 0 0 A) (F0 m 87 ls []) := by
  obtain ⟨⟨hx, hb, hml, hown, hts⟩, hr, hlk, hK, hD, hG, hF⟩ := id C0
  intro n
  induction n with
  | zero =>
    intro v1 M h
    simp [f_X10_desk_L87] at h
  | succ n ih =>
    intro v1 M h H locs ls hP hS hl
    rw [f_X10_desk_L87] at h
    refine lv_iload_n hx hb dX10_desk_87 rfl (lv_at hl 1 rfl) ?_
    refine lv_bipush (v := 6) hx hb dX10_desk_88 (by decide) ?_
    refine lv_icmp_ge (tgt := 111) hx hb dX10_desk_90 (by decide) (fun c23 => ?_) (fun c23 => ?_)
    · rw [if_pos c23] at h
      exact hk v1 M h _ _ _ hP hS (lv_sub hl [0, 1] rfl)
    · rw [if_neg c23] at h
      refine lv_aload_n hx hb dX10_desk_93 rfl (lv_at hl 0 rfl) ?_
      refine tm_get (C := RX10) (T := TX10) (N := 23) (v := .ref (g.2.2 + 137)) hx hb hts nX10_desk_X10 hown hK hP (hF 127 (by decide)) (tm_mkX10 (by decide) _) rfl 11 (by decide) (hts _ kX10_desk_7) rfl dX10_desk_94 ?_
      refine lv_iload_n hx hb dX10_desk_97 rfl (lv_at hl 1 rfl) ?_
      refine lv_aload_n hx hb dX10_desk_98 rfl (lv_at hl 0 rfl) ?_
      refine tm_get (C := RX10) (T := TX10) (N := 23) (v := .ref (g.2.2 + 141)) hx hb hts nX10_desk_X10 hown hK hP (hF 127 (by decide)) (tm_mkX10 (by decide) _) rfl 20 (by decide) (hts _ kX10_desk_8) rfl dX10_desk_99 ?_
      refine lv_iload_n hx hb dX10_desk_102 rfl (lv_at hl 1 rfl) ?_
      obtain ⟨x24, e25, h⟩ := tm_bd_some h
      refine tm_iald hx hb hK hP (hF 141 (by decide)) (tm_mkI (n := 6) (by decide) (by decide)) e25 dX10_desk_103 ?_
      obtain ⟨M26, e27, h⟩ := tm_bd_some h
      refine tm_iast hx hb hK hP hD hS (hF 137 (by decide)) (tm_mkI (n := 6) (by decide) (by decide)) e27 dX10_desk_104 (fun H locs hP hS => ?_)
      refine lv_iinc (v := v1 + 1) (lv' := [(1, .int (v1 + 1)), (0, .ref (g.2.2 + 127))]) hx hb dX10_desk_105 hl (k := 1) rfl rfl (by decide) rfl (fun ls hl => ?_)
      refine lv_goto (tgt := 87) hx hb dX10_desk_108 (by decide) ?_
      exact ih (v1 + 1) M26 h _ _ _ hP hS (lv_sub hl [1, 0] rfl)
set_option maxHeartbeats 4000000 in
set_option maxRecDepth 100000 in
theorem c_X10_desk (l : Launch) (g : tm_G) (A : Nat → Prop) (L : List Nat) (hD : ∀ M, va_D A (tm_ws g L M)) (hF : ∀ o, tm_all o → o ∈ L) (M : tm_M) (R0 : Int32 × tm_M) (h : f_X10_desk M = some R0) : Met l yX10_desk wsX10_desk { frames := 7, cells := 0, slots := 0, locals := 151 } (tm_PC g A L M [.ref (g.2.2 + 127)]) (tm_QI g A L R0) 0 0 A := by
  refine tm_start (cc := cX10_desk) (nL := 2) (ret := (some .int)) (F := tm_all) (plainFor_of_name (by decide)) rfl (Nat.le_of_ble_eq_true rfl) hD hF (fun p e s m args below meth c ls C0 hP hS hl => ?_)
  have hl : lv_has ls 2 [(0, .ref (g.2.2 + 127))] := hl
  have C0 : tm_C p m c cX10_desk 2 s args wsX10_desk RX10 meth (some .int) g A L tm_all := C0
  obtain ⟨⟨hx, hb, hml, hown, hts⟩, hr, hlk, hK, hD, hG, hF⟩ := id C0
  unfold f_X10_desk at h
  refine lv_aload_n hx hb dX10_desk_0 rfl (lv_at hl 0 rfl) ?_
  obtain ⟨r1, e2, h⟩ := tm_bd_some h
  refine tm_backI (r0 := r1.1) (M0 := r1.2) (fun _ q => q) (tm_callV (As := []) (rest := []) ⟨hx, hb, hml, hown, hts⟩ hK hG hP hS (c_X10_reads l g A L hD hF M r1 e2) (cwV 0 hts gX10_desk_X10_reads rfl rfl rfl (by decide +kernel) ⟨Nat.le_of_ble_eq_true rfl, Nat.le_of_ble_eq_true rfl⟩) (tm_recv hK hP (hF 127 (by decide)) (ci := 9) rfl (tm_mkX10 (by decide) _)) rfl hl.1 (lv_room (Nat.le_of_ble_eq_true rfl)) dX10_desk_1 ⟨Nat.zero_le _, Nat.zero_le _⟩) hS (fun H locs hP hS => ?_)
  refine lv_if_ne (tgt := 10) hx hb dX10_desk_4 (by decide) (fun c3 => ?_) (fun c3 => ?_)
  · rw [if_neg c3] at h
    refine lv_aload_n hx hb dX10_desk_10 rfl (lv_at hl 0 rfl) ?_
    refine lv_iconst (v := 0) hx hb dX10_desk_11 (by decide) ?_
    obtain ⟨M4, e5, h⟩ := tm_bd_some h
    refine tm_put (C := RX10) (T := TX10) (N := 23) (ty := .int) (x := 0) hx hb hts nX10_desk_X10 tyX10 tyX10_ok nmX10 hown hK hP hD hS (hF 127 (by decide)) (tm_mkX10 (by decide)) rfl 13 (by decide) (hts _ kX10_desk_0) rfl (by decide +kernel) rfl rfl (Nat.le_of_ble_eq_true rfl) rfl (Option.some.inj e5) dX10_desk_12 (fun H locs hP hS => ?_)
    refine lv_aload_n hx hb dX10_desk_15 rfl (lv_at hl 0 rfl) ?_
    refine lv_aload_n hx hb dX10_desk_16 rfl (lv_at hl 0 rfl) ?_
    refine tm_get (C := RX10) (T := TX10) (N := 23) (v := .int (M4 127 18)) hx hb hts nX10_desk_X10 hown hK hP (hF 127 (by decide)) (tm_mkX10 (by decide) _) rfl 18 (by decide) (hts _ kX10_desk_1) rfl dX10_desk_17 ?_
    obtain ⟨M6, e7, h⟩ := tm_bd_some h
    refine tm_put (C := RX10) (T := TX10) (N := 23) (ty := .int) (x := M4 127 18) hx hb hts nX10_desk_X10 tyX10 tyX10_ok nmX10 hown hK hP hD hS (hF 127 (by decide)) (tm_mkX10 (by decide)) rfl 7 (by decide) (hts _ kX10_desk_2) rfl (by decide +kernel) rfl rfl (Nat.le_of_ble_eq_true rfl) rfl (Option.some.inj e7) dX10_desk_20 (fun H locs hP hS => ?_)
    refine lv_iconst (v := 0) hx hb dX10_desk_23 (by decide) ?_
    refine lv_istore_n (lv' := [(1, .int 0), (0, .ref (g.2.2 + 127))]) hx hb dX10_desk_24 rfl hl (by decide) rfl (fun ls hl => ?_)
    refine w_X10_desk_L25 C0  _ R0 (fun v21 M22 h H locs ls hP hS hl => ?_) 1000 0 M6 h _ _ _ hP hS (lv_sub hl [1, 0] rfl)
    refine lv_iconst (v := 0) hx hb dX10_desk_85 (by decide) ?_
    refine lv_istore_n (lv' := [(1, .int 0), (0, .ref (g.2.2 + 127))]) hx hb dX10_desk_86 rfl hl (by decide) rfl (fun ls hl => ?_)
    refine w_X10_desk_L87 C0  _ R0 (fun v28 M29 h H locs ls hP hS hl => ?_) 1000 0 M22 h _ _ _ hP hS (lv_sub hl [1, 0] rfl)
    refine lv_aload_n hx hb dX10_desk_111 rfl (lv_at hl 0 rfl) ?_
    obtain ⟨M32, e31, h⟩ := tm_bd_some h
    refine tm_backV (M0 := M32) (fun _ q => q) (tm_callV (As := []) (rest := []) ⟨hx, hb, hml, hown, hts⟩ hK hG hP hS (c_X10_layDesk l g A L hD hF M29 M32 e31) (cwV 0 hts gX10_desk_X10_layDesk rfl rfl rfl (by decide +kernel) ⟨Nat.le_of_ble_eq_true rfl, Nat.le_of_ble_eq_true rfl⟩) (tm_recv hK hP (hF 127 (by decide)) (ci := 9) rfl (tm_mkX10 (by decide) _)) rfl hl.1 (lv_room (Nat.le_of_ble_eq_true rfl)) dX10_desk_112 ⟨Nat.zero_le _, Nat.zero_le _⟩) hS (fun H locs hP hS => ?_)
    refine lv_aload_n hx hb dX10_desk_115 rfl (lv_at hl 0 rfl) ?_
    refine tm_get (C := RX10) (T := TX10) (N := 23) (v := .int (M32 127 21)) hx hb hts nX10_desk_X10 hown hK hP (hF 127 (by decide)) (tm_mkX10 (by decide) _) rfl 21 (by decide) (hts _ kX10_desk_9) rfl dX10_desk_116 ?_
    exact tm_iret C0 (Option.some.inj h) hP hS dX10_desk_119
  · rw [if_pos c3] at h
    refine lv_bipush (v := (-4)) hx hb dX10_desk_7 (by decide) ?_
    exact tm_iret C0 (Option.some.inj h) hP hS dX10_desk_9
/-! X10_isCouple -/
theorem nX10_isCouple_X10 : ∀ w ∈ wsX100, w ∈ wsX10_isCouple := by decide +kernel
theorem kX10_isCouple_0 : Cond.fieldLink RX10 59 "QuarrelDeskModel" "couples" "I" ∈ wsX10_isCouple := by decide +kernel
def f_X10_isCouple (M : tm_M) (p1 : Int32) : Option Int32 :=
  (f_X10_in p1 0 ((M 127 7) - 1)).bind fun r1 =>
  tm_gd (r1 = 0 ∨ r1 = 1) <|
  some r1
set_option maxHeartbeats 4000000 in
set_option maxRecDepth 100000 in
theorem c_X10_isCouple (l : Launch) (g : tm_G) (A : Nat → Prop) (L : List Nat) (hD : ∀ M, va_D A (tm_ws g L M)) (hF : ∀ o, tm_all o → o ∈ L) (M : tm_M) (p1 : Int32) (r0 : Int32) (h : f_X10_isCouple M p1 = some r0) : Met l yX10_isCouple wsX10_isCouple { frames := 1, cells := 0, slots := 0, locals := 22 } (tm_PC g A L M [.ref (g.2.2 + 127), .int p1]) (tm_QI g A L (r0, M)) 0 0 A := by
  refine tm_start (cc := cX10_isCouple) (nL := 2) (ret := (some .boolean)) (F := tm_all) (plainFor_of_name (by decide)) rfl (Nat.le_of_ble_eq_true rfl) hD hF (fun p e s m args below meth c ls C0 hP hS hl => ?_)
  have hl : lv_has ls 2 [(0, .ref (g.2.2 + 127)), (1, .int p1)] := hl
  have C0 : tm_C p m c cX10_isCouple 2 s args wsX10_isCouple RX10 meth (some .boolean) g A L tm_all := C0
  obtain ⟨⟨hx, hb, hml, hown, hts⟩, hr, hlk, hK, hD, hG, hF⟩ := id C0
  unfold f_X10_isCouple at h
  refine lv_iload_n hx hb dX10_isCouple_0 rfl (lv_at hl 1 rfl) ?_
  refine lv_iconst (v := 0) hx hb dX10_isCouple_1 (by decide) ?_
  refine lv_aload_n hx hb dX10_isCouple_2 rfl (lv_at hl 0 rfl) ?_
  refine tm_get (C := RX10) (T := TX10) (N := 23) (v := .int (M 127 7)) hx hb hts nX10_isCouple_X10 hown hK hP (hF 127 (by decide)) (tm_mkX10 (by decide) _) rfl 7 (by decide) (hts _ kX10_isCouple_0) rfl dX10_isCouple_3 ?_
  refine lv_iconst (v := 1) hx hb dX10_isCouple_6 (by decide) ?_
  refine lv_isub hx hb dX10_isCouple_7 ?_
  obtain ⟨r1, e2, h⟩ := tm_bd_some h
  refine tm_backI (r0 := r1) (M0 := M) (fun _ q => q) (tm_callS (As := [.int p1, .int 0, .int ((M 127 7) - 1)]) (rest := []) ⟨hx, hb, hml, hown, hts⟩ hK hG hP hS (c_X10_in l g A L hD hF M p1 0 ((M 127 7) - 1) r1 e2) (va_cwS 3 hts gX10_isCouple_X10_in rfl rfl rfl (by decide +kernel) ⟨Nat.le_of_ble_eq_true rfl, Nat.le_of_ble_eq_true rfl⟩) rfl hl.1 (lv_room (Nat.le_of_ble_eq_true rfl)) dX10_isCouple_8 ⟨Nat.zero_le _, Nat.zero_le _⟩) hS (fun H locs hP hS => ?_)
  obtain ⟨g3, h⟩ := tm_gd_some h
  exact tm_zret C0 g3 (by rw [Option.some.inj h]) hP hS dX10_isCouple_11
/-! X10_gainOf -/
theorem nX10_gainOf_X10 : ∀ w ∈ wsX100, w ∈ wsX10_gainOf := by decide +kernel
theorem kX10_gainOf_0 : Cond.fieldLink RX10 32 "QuarrelDeskModel" "tempers" "[I" ∈ wsX10_gainOf := by decide +kernel
theorem kX10_gainOf_1 : Cond.fieldLink RX10 29 "QuarrelDeskModel" "kinds" "[I" ∈ wsX10_gainOf := by decide +kernel
theorem kX10_gainOf_2 : Cond.fieldLink RX10 22 "QuarrelDeskModel" "row" "[I" ∈ wsX10_gainOf := by decide +kernel
def f_X10_gainOf (M : tm_M) (p1 : Int32) (p2 : Int32) : Option Int32 :=
  (tm_rd M 135 6 p2).bind fun x1 =>
  (tm_rd M 134 6 p2).bind fun x3 =>
  if x3 = 1 then
    (tm_rd M 132 672 ((p1 + 50) + p2)).bind fun x6 =>
    if x6 = (-1) then
      some (x1 + 0)
    else
      (tm_rd M 132 672 ((p1 + 50) + p2)).bind fun x9 =>
      (tm_rd M 132 672 (p1 + 0)).bind fun x11 =>
      if x9 = (x11 - 1) then
        some (x1 + 2)
      else
        some (x1 + 0)
  else
    if x3 = 2 then
      (tm_rd M 132 672 (p1 + 0)).bind fun x15 =>
      if (x15 - x15 / 7 * 7) = 6 then
        some (2 * x1)
      else
        some x1
    else
      if x3 = 3 then
        (tm_rd M 132 672 ((p1 + 13) + p2)).bind fun x19 =>
        some (x1 + x19)
      else
        some x1
set_option maxHeartbeats 4000000 in
set_option maxRecDepth 100000 in
theorem c_X10_gainOf (l : Launch) (g : tm_G) (A : Nat → Prop) (L : List Nat) (hD : ∀ M, va_D A (tm_ws g L M)) (hF : ∀ o, tm_all o → o ∈ L) (M : tm_M) (p1 : Int32) (p2 : Int32) (r0 : Int32) (h : f_X10_gainOf M p1 p2 = some r0) : Met l yX10_gainOf wsX10_gainOf { frames := 0, cells := 0, slots := 0, locals := 0 } (tm_PC g A L M [.ref (g.2.2 + 127), .int p1, .int p2]) (tm_QI g A L (r0, M)) 0 0 A := by
  refine tm_start (cc := cX10_gainOf) (nL := 4) (ret := (some .int)) (F := tm_all) (plainFor_of_name (by decide)) rfl (Nat.le_of_ble_eq_true rfl) hD hF (fun p e s m args below meth c ls C0 hP hS hl => ?_)
  have hl : lv_has ls 4 [(0, .ref (g.2.2 + 127)), (1, .int p1), (2, .int p2)] := hl
  have C0 : tm_C p m c cX10_gainOf 4 s args wsX10_gainOf RX10 meth (some .int) g A L tm_all := C0
  obtain ⟨⟨hx, hb, hml, hown, hts⟩, hr, hlk, hK, hD, hG, hF⟩ := id C0
  unfold f_X10_gainOf at h
  refine lv_aload_n hx hb dX10_gainOf_0 rfl (lv_at hl 0 rfl) ?_
  refine tm_get (C := RX10) (T := TX10) (N := 23) (v := .ref (g.2.2 + 135)) hx hb hts nX10_gainOf_X10 hown hK hP (hF 127 (by decide)) (tm_mkX10 (by decide) _) rfl 9 (by decide) (hts _ kX10_gainOf_0) rfl dX10_gainOf_1 ?_
  refine lv_iload_n hx hb dX10_gainOf_4 rfl (lv_at hl 2 rfl) ?_
  obtain ⟨x1, e2, h⟩ := tm_bd_some h
  refine tm_iald hx hb hK hP (hF 135 (by decide)) (tm_mkI (n := 6) (by decide) (by decide)) e2 dX10_gainOf_5 ?_
  refine lv_istore_n (lv' := [(3, .int x1), (0, .ref (g.2.2 + 127)), (1, .int p1), (2, .int p2)]) hx hb dX10_gainOf_6 rfl hl (by decide) rfl (fun ls hl => ?_)
  refine lv_aload_n hx hb dX10_gainOf_7 rfl (lv_at hl 1 rfl) ?_
  refine tm_get (C := RX10) (T := TX10) (N := 23) (v := .ref (g.2.2 + 134)) hx hb hts nX10_gainOf_X10 hown hK hP (hF 127 (by decide)) (tm_mkX10 (by decide) _) rfl 8 (by decide) (hts _ kX10_gainOf_1) rfl dX10_gainOf_8 ?_
  refine lv_iload_n hx hb dX10_gainOf_11 rfl (lv_at hl 3 rfl) ?_
  obtain ⟨x3, e4, h⟩ := tm_bd_some h
  refine tm_iald hx hb hK hP (hF 134 (by decide)) (tm_mkI (n := 6) (by decide) (by decide)) e4 dX10_gainOf_12 ?_
  by_cases c5 : x3 = 1
  · rw [if_pos c5] at h
    refine lv_tableIn (tgt := 40) (off := 27) hx hb dX10_gainOf_13 (by rw [c5]; decide) (by rw [c5]; decide) (by rw [c5]; decide) (by decide) ?_
    refine lv_iload_n hx hb dX10_gainOf_40 rfl (lv_at hl 0 rfl) ?_
    refine lv_aload_n hx hb dX10_gainOf_41 rfl (lv_at hl 1 rfl) ?_
    refine tm_get (C := RX10) (T := TX10) (N := 23) (v := .ref (g.2.2 + 132)) hx hb hts nX10_gainOf_X10 hown hK hP (hF 127 (by decide)) (tm_mkX10 (by decide) _) rfl 4 (by decide) (hts _ kX10_gainOf_2) rfl dX10_gainOf_42 ?_
    refine lv_iload_n hx hb dX10_gainOf_45 rfl (lv_at hl 2 rfl) ?_
    refine lv_bipush (v := 50) hx hb dX10_gainOf_46 (by decide) ?_
    refine lv_iadd hx hb dX10_gainOf_48 ?_
    refine lv_iload_n hx hb dX10_gainOf_49 rfl (lv_at hl 3 rfl) ?_
    refine lv_iadd hx hb dX10_gainOf_50 ?_
    obtain ⟨x6, e7, h⟩ := tm_bd_some h
    refine tm_iald hx hb hK hP (hF 132 (by decide)) (tm_mkI (n := 672) (by decide) (by decide)) e7 dX10_gainOf_51 ?_
    refine lv_iconst (v := (-1)) hx hb dX10_gainOf_52 (by decide) ?_
    refine lv_icmp_eq (tgt := 84) hx hb dX10_gainOf_53 (by decide) (fun c8 => ?_) (fun c8 => ?_)
    · rw [if_pos c8] at h
      refine lv_iconst (v := 0) hx hb dX10_gainOf_84 (by decide) ?_
      refine lv_iadd hx hb dX10_gainOf_85 ?_
      exact tm_iret C0 (by rw [Option.some.inj h]) hP hS dX10_gainOf_86
    · rw [if_neg c8] at h
      refine lv_aload_n hx hb dX10_gainOf_56 rfl (lv_at hl 1 rfl) ?_
      refine tm_get (C := RX10) (T := TX10) (N := 23) (v := .ref (g.2.2 + 132)) hx hb hts nX10_gainOf_X10 hown hK hP (hF 127 (by decide)) (tm_mkX10 (by decide) _) rfl 4 (by decide) (hts _ kX10_gainOf_2) rfl dX10_gainOf_57 ?_
      refine lv_iload_n hx hb dX10_gainOf_60 rfl (lv_at hl 2 rfl) ?_
      refine lv_bipush (v := 50) hx hb dX10_gainOf_61 (by decide) ?_
      refine lv_iadd hx hb dX10_gainOf_63 ?_
      refine lv_iload_n hx hb dX10_gainOf_64 rfl (lv_at hl 3 rfl) ?_
      refine lv_iadd hx hb dX10_gainOf_65 ?_
      obtain ⟨x9, e10, h⟩ := tm_bd_some h
      refine tm_iald hx hb hK hP (hF 132 (by decide)) (tm_mkI (n := 672) (by decide) (by decide)) e10 dX10_gainOf_66 ?_
      refine lv_aload_n hx hb dX10_gainOf_67 rfl (lv_at hl 1 rfl) ?_
      refine tm_get (C := RX10) (T := TX10) (N := 23) (v := .ref (g.2.2 + 132)) hx hb hts nX10_gainOf_X10 hown hK hP (hF 127 (by decide)) (tm_mkX10 (by decide) _) rfl 4 (by decide) (hts _ kX10_gainOf_2) rfl dX10_gainOf_68 ?_
      refine lv_iload_n hx hb dX10_gainOf_71 rfl (lv_at hl 2 rfl) ?_
      refine lv_iconst (v := 0) hx hb dX10_gainOf_72 (by decide) ?_
      refine lv_iadd hx hb dX10_gainOf_73 ?_
      obtain ⟨x11, e12, h⟩ := tm_bd_some h
      refine tm_iald hx hb hK hP (hF 132 (by decide)) (tm_mkI (n := 672) (by decide) (by decide)) e12 dX10_gainOf_74 ?_
      refine lv_iconst (v := 1) hx hb dX10_gainOf_75 (by decide) ?_
      refine lv_isub hx hb dX10_gainOf_76 ?_
      refine lv_icmp_ne (tgt := 84) hx hb dX10_gainOf_77 (by decide) (fun c13 => ?_) (fun c13 => ?_)
      · rw [if_neg c13] at h
        refine lv_iconst (v := 0) hx hb dX10_gainOf_84 (by decide) ?_
        refine lv_iadd hx hb dX10_gainOf_85 ?_
        exact tm_iret C0 (by rw [Option.some.inj h]) hP hS dX10_gainOf_86
      · rw [if_pos c13] at h
        refine lv_iconst (v := 2) hx hb dX10_gainOf_80 (by decide) ?_
        refine lv_goto (tgt := 85) hx hb dX10_gainOf_81 (by decide) ?_
        refine lv_iadd hx hb dX10_gainOf_85 ?_
        exact tm_iret C0 (by rw [Option.some.inj h]) hP hS dX10_gainOf_86
  · rw [if_neg c5] at h
    by_cases c14 : x3 = 2
    · rw [if_pos c14] at h
      refine lv_tableIn (tgt := 87) (off := 74) hx hb dX10_gainOf_13 (by rw [c14]; decide) (by rw [c14]; decide) (by rw [c14]; decide) (by decide) ?_
      refine lv_aload_n hx hb dX10_gainOf_87 rfl (lv_at hl 1 rfl) ?_
      refine tm_get (C := RX10) (T := TX10) (N := 23) (v := .ref (g.2.2 + 132)) hx hb hts nX10_gainOf_X10 hown hK hP (hF 127 (by decide)) (tm_mkX10 (by decide) _) rfl 4 (by decide) (hts _ kX10_gainOf_2) rfl dX10_gainOf_88 ?_
      refine lv_iload_n hx hb dX10_gainOf_91 rfl (lv_at hl 2 rfl) ?_
      refine lv_iconst (v := 0) hx hb dX10_gainOf_92 (by decide) ?_
      refine lv_iadd hx hb dX10_gainOf_93 ?_
      obtain ⟨x15, e16, h⟩ := tm_bd_some h
      refine tm_iald hx hb hK hP (hF 132 (by decide)) (tm_mkI (n := 672) (by decide) (by decide)) e16 dX10_gainOf_94 ?_
      refine lv_bipush (v := 7) hx hb dX10_gainOf_95 (by decide) ?_
      refine lv_irem hx hb dX10_gainOf_97 (by decide) ?_
      refine lv_bipush (v := 6) hx hb dX10_gainOf_98 (by decide) ?_
      refine lv_icmp_ne (tgt := 109) hx hb dX10_gainOf_100 (by decide) (fun c17 => ?_) (fun c17 => ?_)
      · rw [if_neg c17] at h
        refine lv_iload_n hx hb dX10_gainOf_109 rfl (lv_at hl 0 rfl) ?_
        exact tm_iret C0 (by rw [Option.some.inj h]) hP hS dX10_gainOf_110
      · rw [if_pos c17] at h
        refine lv_iconst (v := 2) hx hb dX10_gainOf_103 (by decide) ?_
        refine lv_iload_n hx hb dX10_gainOf_104 rfl (lv_at hl 0 rfl) ?_
        refine lv_imul hx hb dX10_gainOf_105 ?_
        refine lv_goto (tgt := 110) hx hb dX10_gainOf_106 (by decide) ?_
        exact tm_iret C0 (by rw [Option.some.inj h]) hP hS dX10_gainOf_110
    · rw [if_neg c14] at h
      by_cases c18 : x3 = 3
      · rw [if_pos c18] at h
        refine lv_tableIn (tgt := 111) (off := 98) hx hb dX10_gainOf_13 (by rw [c18]; decide) (by rw [c18]; decide) (by rw [c18]; decide) (by decide) ?_
        refine lv_iload_n hx hb dX10_gainOf_111 rfl (lv_at hl 0 rfl) ?_
        refine lv_aload_n hx hb dX10_gainOf_112 rfl (lv_at hl 1 rfl) ?_
        refine tm_get (C := RX10) (T := TX10) (N := 23) (v := .ref (g.2.2 + 132)) hx hb hts nX10_gainOf_X10 hown hK hP (hF 127 (by decide)) (tm_mkX10 (by decide) _) rfl 4 (by decide) (hts _ kX10_gainOf_2) rfl dX10_gainOf_113 ?_
        refine lv_iload_n hx hb dX10_gainOf_116 rfl (lv_at hl 2 rfl) ?_
        refine lv_bipush (v := 13) hx hb dX10_gainOf_117 (by decide) ?_
        refine lv_iadd hx hb dX10_gainOf_119 ?_
        refine lv_iload_n hx hb dX10_gainOf_120 rfl (lv_at hl 3 rfl) ?_
        refine lv_iadd hx hb dX10_gainOf_121 ?_
        obtain ⟨x19, e20, h⟩ := tm_bd_some h
        refine tm_iald hx hb hK hP (hF 132 (by decide)) (tm_mkI (n := 672) (by decide) (by decide)) e20 dX10_gainOf_122 ?_
        refine lv_iadd hx hb dX10_gainOf_123 ?_
        exact tm_iret C0 (by rw [Option.some.inj h]) hP hS dX10_gainOf_124
      · rw [if_neg c18] at h
        have c5t := lv_neT (a := 1) c5 (by decide)
        have c14t := lv_neT (a := 2) c14 (by decide)
        have c18t := lv_neT (a := 3) c18 (by decide)
        refine lv_tableOut (tgt := 125) hx hb dX10_gainOf_13 (by omega) (by decide) ?_
        refine lv_iload_n hx hb dX10_gainOf_125 rfl (lv_at hl 0 rfl) ?_
        exact tm_iret C0 (by rw [Option.some.inj h]) hP hS dX10_gainOf_126
