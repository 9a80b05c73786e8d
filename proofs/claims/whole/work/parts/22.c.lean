/-! X9_change -/
theorem kX9_change_0 : Cond.fieldLink RX9 165 "QuarrelDesk" "TERM_LEAST" "[I" ∈ wsX9_change := by decide +kernel
theorem kX9_change_1 : Cond.fieldLink RX9 168 "QuarrelDesk" "TERM_MOST" "[I" ∈ wsX9_change := by decide +kernel
theorem nX9_change_X9 : ∀ w ∈ wsX90, w ∈ wsX9_change := by decide +kernel
theorem kX9_change_2 : Cond.fieldLink RX9 43 "QuarrelDesk" "now" "LQuarrelDesk$Year;" ∈ wsX9_change := by decide +kernel
theorem nX9_change_X8 : ∀ w ∈ wsX80, w ∈ wsX9_change := by decide +kernel
theorem kX9_change_3 : Cond.fieldLink RX9 140 "QuarrelDesk$Year" "terms" "LQuarrelDesk$Terms;" ∈ wsX9_change := by decide +kernel
def f_X9_change (M : tm_M) (p1 : Int32) (p2 : Int32) : Option (Int32 × tm_M) :=
  (f_X9_outside p1 0 5).bind fun r1 =>
  if r1 = 0 then
    (tm_rds tm_least 6 p1).bind fun x7 =>
    (tm_rds tm_most 6 p1).bind fun x12 =>
    (f_X9_outside p2 x7 x12).bind fun r14 =>
    if r14 = 0 then
      (f_X9_remember M).bind fun M19 =>
      (f_X6_get M19 21 p1).bind fun r20 =>
      (f_X6_set M19 21 p1 p2).bind fun M24 =>
      some (r20, M24)
    else
      some ((-3), M)
  else
    some ((-3), M)
set_option maxHeartbeats 4000000 in
set_option maxRecDepth 100000 in
theorem c_X9_change (l : Launch) (g : tm_G) (A : Nat → Prop) (L : List Nat) (hD : ∀ M, va_D A (tm_ws g L M)) (hF : ∀ o, tm_all o → o ∈ L) (M : tm_M) (p1 : Int32) (p2 : Int32) (R0 : Int32 × tm_M) (h : f_X9_change M p1 p2 = some R0) : Met l yX9_change wsX9_change { frames := 3, cells := 0, slots := 0, locals := 63 } (tm_PC g A L M [.ref (g.2.2 + 0), .int p1, .int p2]) (tm_QI g A L R0) 0 0 A := by
  refine tm_start (cc := cX9_change) (nL := 4) (ret := (some .int)) (F := tm_all) (plainFor_of_name (by decide)) rfl (Nat.le_of_ble_eq_true rfl) hD hF (fun p e s m args below meth c ls C0 hP hS hl => ?_)
  have hl : lv_has ls 4 [(0, .ref (g.2.2 + 0)), (1, .int p1), (2, .int p2)] := hl
  have C0 : tm_C p m c cX9_change 4 s args wsX9_change RX9 meth (some .int) g A L tm_all := C0
  obtain ⟨⟨hx, hb, hml, hown, hts⟩, hr, hlk, hK, hD, hG, hF⟩ := id C0
  unfold f_X9_change at h
  refine lv_iload_n hx hb dX9_change_0 rfl (lv_at hl 1 rfl) ?_
  refine lv_iconst (v := 0) hx hb dX9_change_1 (by decide) ?_
  refine lv_iconst (v := 5) hx hb dX9_change_2 (by decide) ?_
  obtain ⟨r1, e2, h⟩ := tm_bd_some h
  refine tm_backI (r0 := r1) (M0 := M) (fun _ q => q) (tm_callS (As := [.int p1, .int 0, .int 5]) (rest := []) ⟨hx, hb, hml, hown, hts⟩ hK hG hP hS (c_X9_outside l g A L hD hF M p1 0 5 r1 e2) (va_cwS 3 hts gX9_change_X9_outside rfl rfl rfl (by decide +kernel) ⟨Nat.le_of_ble_eq_true rfl, Nat.le_of_ble_eq_true rfl⟩) rfl hl.1 (lv_room (Nat.le_of_ble_eq_true rfl)) dX9_change_3 ⟨Nat.zero_le _, Nat.zero_le _⟩) hS (fun H locs hP hS => ?_)
  refine lv_if_ne (tgt := 26) hx hb dX9_change_6 (by decide) (fun c3 => ?_) (fun c3 => ?_)
  · rw [if_neg c3] at h
    refine lv_bipush (v := (-3)) hx hb dX9_change_26 (by decide) ?_
    exact tm_iret C0 (Option.some.inj h) hP hS dX9_change_28
  · rw [if_pos c3] at h
    refine lv_iload_n hx hb dX9_change_9 rfl (lv_at hl 2 rfl) ?_
    obtain ⟨t4, z5, z6⟩ := hG.2.2.2.2.2.2.1
    refine va_gets hx hb z5 hS hown (hts _ kX9_change_0) (fun _ h => h) dX9_change_10 ?_
    refine lv_iload_n hx hb dX9_change_13 rfl (lv_at hl 1 rfl) ?_
    obtain ⟨x7, e8, h⟩ := tm_bd_some h
    refine tm_ti hx hb z6 hS e8 dX9_change_14 ?_
    obtain ⟨t9, z10, z11⟩ := hG.2.2.2.2.2.2.2.1
    refine va_gets hx hb z10 hS hown (hts _ kX9_change_1) (fun _ h => h) dX9_change_15 ?_
    refine lv_iload_n hx hb dX9_change_18 rfl (lv_at hl 1 rfl) ?_
    obtain ⟨x12, e13, h⟩ := tm_bd_some h
    refine tm_ti hx hb z11 hS e13 dX9_change_19 ?_
    obtain ⟨r14, e15, h⟩ := tm_bd_some h
    refine tm_backI (r0 := r14) (M0 := M) (fun _ q => q) (tm_callS (As := [.int p2, .int x7, .int x12]) (rest := []) ⟨hx, hb, hml, hown, hts⟩ hK hG hP hS (c_X9_outside l g A L hD hF M p2 x7 x12 r14 e15) (va_cwS 3 hts gX9_change_X9_outside rfl rfl rfl (by decide +kernel) ⟨Nat.le_of_ble_eq_true rfl, Nat.le_of_ble_eq_true rfl⟩) rfl hl.1 (lv_room (Nat.le_of_ble_eq_true rfl)) dX9_change_20 ⟨Nat.zero_le _, Nat.zero_le _⟩) hS (fun H locs hP hS => ?_)
    refine lv_if_eq (tgt := 29) hx hb dX9_change_23 (by decide) (fun c16 => ?_) (fun c16 => ?_)
    · rw [if_pos c16] at h
      refine lv_aload_n hx hb dX9_change_29 rfl (lv_at hl 0 rfl) ?_
      obtain ⟨M19, e18, h⟩ := tm_bd_some h
      refine tm_backV (M0 := M19) (fun _ q => q) (tm_callV (As := []) (rest := []) ⟨hx, hb, hml, hown, hts⟩ hK hG hP hS (c_X9_remember l g A L hD hF M M19 e18) (cwV 0 hts gX9_change_X9_remember rfl rfl rfl (by decide +kernel) ⟨Nat.le_of_ble_eq_true rfl, Nat.le_of_ble_eq_true rfl⟩) (tm_recv hK hP (hF 0 (by decide)) (ci := 8) rfl (tm_mkX9 (by decide) _)) rfl hl.1 (lv_room (Nat.le_of_ble_eq_true rfl)) dX9_change_30 ⟨Nat.zero_le _, Nat.zero_le _⟩) hS (fun H locs hP hS => ?_)
      refine lv_aload_n hx hb dX9_change_33 rfl (lv_at hl 0 rfl) ?_
      refine tm_get (C := RX9) (T := TX9) (N := 15) (v := .ref (g.2.2 + 20)) hx hb hts nX9_change_X9 hown hK hP (hF 0 (by decide)) (tm_mkX9 (by decide) _) rfl 3 (by decide) (hts _ kX9_change_2) rfl dX9_change_34 ?_
      refine tm_get (C := RX8) (T := TX8) (N := 4) (v := .ref (g.2.2 + 21)) hx hb hts nX9_change_X8 hown hK hP (hF 20 (by decide)) (tm_mkX8 (by decide) _) rfl 0 (by decide) (hts _ kX9_change_3) rfl dX9_change_37 ?_
      refine lv_iload_n hx hb dX9_change_40 rfl (lv_at hl 1 rfl) ?_
      obtain ⟨r20, e21, h⟩ := tm_bd_some h
      refine tm_backI (r0 := r20) (M0 := M19) (fun _ q => q) (tm_callV (As := [.int p1]) (rest := []) ⟨hx, hb, hml, hown, hts⟩ hK hG hP hS (c_X6_get l g A L hD hF M19 21 p1 r20 e21) (cwV 1 hts gX9_change_X6_get rfl rfl rfl (by decide +kernel) ⟨Nat.le_of_ble_eq_true rfl, Nat.le_of_ble_eq_true rfl⟩) (tm_recv hK hP (hF 21 (by decide)) (ci := 5) rfl (tm_mkX6 (by decide) _)) rfl hl.1 (lv_room (Nat.le_of_ble_eq_true rfl)) dX9_change_41 ⟨Nat.zero_le _, Nat.zero_le _⟩) hS (fun H locs hP hS => ?_)
      refine lv_istore_n (lv' := [(3, .int r20), (0, .ref (g.2.2 + 0)), (1, .int p1), (2, .int p2)]) hx hb dX9_change_44 rfl hl (by decide) rfl (fun ls hl => ?_)
      refine lv_aload_n hx hb dX9_change_45 rfl (lv_at hl 1 rfl) ?_
      refine tm_get (C := RX9) (T := TX9) (N := 15) (v := .ref (g.2.2 + 20)) hx hb hts nX9_change_X9 hown hK hP (hF 0 (by decide)) (tm_mkX9 (by decide) _) rfl 3 (by decide) (hts _ kX9_change_2) rfl dX9_change_46 ?_
      refine tm_get (C := RX8) (T := TX8) (N := 4) (v := .ref (g.2.2 + 21)) hx hb hts nX9_change_X8 hown hK hP (hF 20 (by decide)) (tm_mkX8 (by decide) _) rfl 0 (by decide) (hts _ kX9_change_3) rfl dX9_change_49 ?_
      refine lv_iload_n hx hb dX9_change_52 rfl (lv_at hl 2 rfl) ?_
      refine lv_iload_n hx hb dX9_change_53 rfl (lv_at hl 3 rfl) ?_
      obtain ⟨M24, e23, h⟩ := tm_bd_some h
      refine tm_backV (M0 := M24) (fun _ q => q) (tm_callV (As := [.int p1, .int p2]) (rest := []) ⟨hx, hb, hml, hown, hts⟩ hK hG hP hS (c_X6_set l g A L hD hF M19 21 p1 p2 M24 e23) (cwV 2 hts gX9_change_X6_set rfl rfl rfl (by decide +kernel) ⟨Nat.le_of_ble_eq_true rfl, Nat.le_of_ble_eq_true rfl⟩) (tm_recv hK hP (hF 21 (by decide)) (ci := 5) rfl (tm_mkX6 (by decide) _)) rfl hl.1 (lv_room (Nat.le_of_ble_eq_true rfl)) dX9_change_54 ⟨Nat.zero_le _, Nat.zero_le _⟩) hS (fun H locs hP hS => ?_)
      refine lv_iload_n hx hb dX9_change_57 rfl (lv_at hl 0 rfl) ?_
      exact tm_iret C0 (Option.some.inj h) hP hS dX9_change_58
    · rw [if_neg c16] at h
      refine lv_bipush (v := (-3)) hx hb dX9_change_26 (by decide) ?_
      exact tm_iret C0 (Option.some.inj h) hP hS dX9_change_28
/-! X9_undo -/
theorem nX9_undo_X9 : ∀ w ∈ wsX90, w ∈ wsX9_undo := by decide +kernel
theorem kX9_undo_0 : Cond.fieldLink RX9 175 "QuarrelDesk" "undos" "I" ∈ wsX9_undo := by decide +kernel
theorem kX9_undo_1 : Cond.fieldLink RX9 43 "QuarrelDesk" "now" "LQuarrelDesk$Year;" ∈ wsX9_undo := by decide +kernel
theorem kX9_undo_2 : Cond.fieldLink RX9 54 "QuarrelDesk" "past" "[LQuarrelDesk$Year;" ∈ wsX9_undo := by decide +kernel
def f_X9_undo (M : tm_M) : Option (Int32 × tm_M) :=
  if 0 < (M 0 8) then
    (some (tm_st M 0 8 ((M 0 8) - 1))).bind fun M2 =>
    (f_X9_pastPlace M2 (M2 0 8)).bind fun r4 =>
    (tm_rdr 49 8 r4).bind fun x6 =>
    (f_X8_copy M2 20 x6).bind fun M10 =>
    some (M10 0 8, M10)
  else
    some ((-4), M)
set_option maxHeartbeats 4000000 in
set_option maxRecDepth 100000 in
theorem c_X9_undo (l : Launch) (g : tm_G) (A : Nat → Prop) (L : List Nat) (hD : ∀ M, va_D A (tm_ws g L M)) (hF : ∀ o, tm_all o → o ∈ L) (M : tm_M) (R0 : Int32 × tm_M) (h : f_X9_undo M = some R0) : Met l yX9_undo wsX9_undo { frames := 2, cells := 0, slots := 0, locals := 43 } (tm_PC g A L M [.ref (g.2.2 + 0)]) (tm_QI g A L R0) 0 0 A := by
  refine tm_start (cc := cX9_undo) (nL := 1) (ret := (some .int)) (F := tm_all) (plainFor_of_name (by decide)) rfl (Nat.le_of_ble_eq_true rfl) hD hF (fun p e s m args below meth c ls C0 hP hS hl => ?_)
  have hl : lv_has ls 1 [(0, .ref (g.2.2 + 0))] := hl
  have C0 : tm_C p m c cX9_undo 1 s args wsX9_undo RX9 meth (some .int) g A L tm_all := C0
  obtain ⟨⟨hx, hb, hml, hown, hts⟩, hr, hlk, hK, hD, hG, hF⟩ := id C0
  unfold f_X9_undo at h
  refine lv_aload_n hx hb dX9_undo_0 rfl (lv_at hl 0 rfl) ?_
  refine tm_get (C := RX9) (T := TX9) (N := 15) (v := .int (M 0 8)) hx hb hts nX9_undo_X9 hown hK hP (hF 0 (by decide)) (tm_mkX9 (by decide) _) rfl 8 (by decide) (hts _ kX9_undo_0) rfl dX9_undo_1 ?_
  refine lv_if_gt (tgt := 10) hx hb dX9_undo_4 (by decide) (fun c1 => ?_) (fun c1 => ?_)
  · rw [if_pos c1] at h
    refine lv_aload_n hx hb dX9_undo_10 rfl (lv_at hl 0 rfl) ?_
    refine lv_dup hx hb dX9_undo_11 rfl ?_
    refine tm_get (C := RX9) (T := TX9) (N := 15) (v := .int (M 0 8)) hx hb hts nX9_undo_X9 hown hK hP (hF 0 (by decide)) (tm_mkX9 (by decide) _) rfl 8 (by decide) (hts _ kX9_undo_0) rfl dX9_undo_12 ?_
    refine lv_iconst (v := 1) hx hb dX9_undo_15 (by decide) ?_
    refine lv_isub hx hb dX9_undo_16 ?_
    obtain ⟨M2, e3, h⟩ := tm_bd_some h
    refine tm_put (C := RX9) (T := TX9) (N := 15) (ty := .int) (x := (M 0 8) - 1) hx hb hts nX9_undo_X9 tyX9 tyX9_ok nmX9 hown hK hP hD hS (hF 0 (by decide)) (tm_mkX9 (by decide)) rfl 8 (by decide) (hts _ kX9_undo_0) rfl (by decide +kernel) rfl rfl (Nat.le_of_ble_eq_true rfl) rfl (Option.some.inj e3) dX9_undo_17 (fun H locs hP hS => ?_)
    refine lv_aload_n hx hb dX9_undo_20 rfl (lv_at hl 0 rfl) ?_
    refine tm_get (C := RX9) (T := TX9) (N := 15) (v := .ref (g.2.2 + 20)) hx hb hts nX9_undo_X9 hown hK hP (hF 0 (by decide)) (tm_mkX9 (by decide) _) rfl 3 (by decide) (hts _ kX9_undo_1) rfl dX9_undo_21 ?_
    refine lv_aload_n hx hb dX9_undo_24 rfl (lv_at hl 0 rfl) ?_
    refine tm_get (C := RX9) (T := TX9) (N := 15) (v := .ref (g.2.2 + 49)) hx hb hts nX9_undo_X9 hown hK hP (hF 0 (by decide)) (tm_mkX9 (by decide) _) rfl 6 (by decide) (hts _ kX9_undo_2) rfl dX9_undo_25 ?_
    refine lv_aload_n hx hb dX9_undo_28 rfl (lv_at hl 0 rfl) ?_
    refine lv_aload_n hx hb dX9_undo_29 rfl (lv_at hl 0 rfl) ?_
    refine tm_get (C := RX9) (T := TX9) (N := 15) (v := .int (M2 0 8)) hx hb hts nX9_undo_X9 hown hK hP (hF 0 (by decide)) (tm_mkX9 (by decide) _) rfl 8 (by decide) (hts _ kX9_undo_0) rfl dX9_undo_30 ?_
    obtain ⟨r4, e5, h⟩ := tm_bd_some h
    refine tm_backI (r0 := r4) (M0 := M2) (fun _ q => q) (tm_callV (As := [.int (M2 0 8)]) (rest := [.ref (g.2.2 + 49), .ref (g.2.2 + 20)]) ⟨hx, hb, hml, hown, hts⟩ hK hG hP hS (c_X9_pastPlace l g A L hD hF M2 (M2 0 8) r4 e5) (cwV 1 hts gX9_undo_X9_pastPlace rfl rfl rfl (by decide +kernel) ⟨Nat.le_of_ble_eq_true rfl, Nat.le_of_ble_eq_true rfl⟩) (tm_recv hK hP (hF 0 (by decide)) (ci := 8) rfl (tm_mkX9 (by decide) _)) rfl hl.1 (lv_room (Nat.le_of_ble_eq_true rfl)) dX9_undo_33 ⟨Nat.zero_le _, Nat.zero_le _⟩) hS (fun H locs hP hS => ?_)
    obtain ⟨x6, e7, h⟩ := tm_bd_some h
    refine tm_aald hx hb hK hP 4 (hF 49 (by decide)) (tm_mkY (n := 8) (by decide) (by decide)) rfl e7 dX9_undo_36 ?_
    obtain ⟨M10, e9, h⟩ := tm_bd_some h
    refine tm_backV (M0 := M10) (fun _ q => q) (tm_callV (As := [.ref (g.2.2 + x6)]) (rest := []) ⟨hx, hb, hml, hown, hts⟩ hK hG hP hS (c_X8_copy l g A L hD hF M2 20 x6 M10 e9) (cwV 1 hts gX9_undo_X8_copy rfl rfl rfl (by decide +kernel) ⟨Nat.le_of_ble_eq_true rfl, Nat.le_of_ble_eq_true rfl⟩) (tm_recv hK hP (hF 20 (by decide)) (ci := 7) rfl (tm_mkX8 (by decide) _)) rfl hl.1 (lv_room (Nat.le_of_ble_eq_true rfl)) dX9_undo_37 ⟨Nat.zero_le _, Nat.zero_le _⟩) hS (fun H locs hP hS => ?_)
    refine lv_aload_n hx hb dX9_undo_40 rfl (lv_at hl 0 rfl) ?_
    refine tm_get (C := RX9) (T := TX9) (N := 15) (v := .int (M10 0 8)) hx hb hts nX9_undo_X9 hown hK hP (hF 0 (by decide)) (tm_mkX9 (by decide) _) rfl 8 (by decide) (hts _ kX9_undo_0) rfl dX9_undo_41 ?_
    exact tm_iret C0 (Option.some.inj h) hP hS dX9_undo_44
  · rw [if_neg c1] at h
    refine lv_bipush (v := (-4)) hx hb dX9_undo_7 (by decide) ?_
    exact tm_iret C0 (Option.some.inj h) hP hS dX9_undo_9
/-! X9_keep -/
theorem nX9_keep_X9 : ∀ w ∈ wsX90, w ∈ wsX9_keep := by decide +kernel
theorem kX9_keep_0 : Cond.fieldLink RX9 46 "QuarrelDesk" "kept" "[LQuarrelDesk$Year;" ∈ wsX9_keep := by decide +kernel
theorem kX9_keep_1 : Cond.fieldLink RX9 43 "QuarrelDesk" "now" "LQuarrelDesk$Year;" ∈ wsX9_keep := by decide +kernel
theorem kX9_keep_2 : Cond.fieldLink RX9 50 "QuarrelDesk" "isKept" "[Z" ∈ wsX9_keep := by decide +kernel
theorem nX9_keep_X8 : ∀ w ∈ wsX80, w ∈ wsX9_keep := by decide +kernel
theorem kX9_keep_3 : Cond.fieldLink RX9 133 "QuarrelDesk$Year" "day" "I" ∈ wsX9_keep := by decide +kernel
def f_X9_keep (M : tm_M) (p1 : Int32) : Option (Int32 × tm_M) :=
  (f_X9_outside p1 0 1).bind fun r1 =>
  if r1 = 0 then
    (tm_rdr 29 2 p1).bind fun x4 =>
    tm_gd (tm_shp x4 = 7) <|
    (f_X8_copy M x4 20).bind fun M8 =>
    (tm_wr M8 48 2 p1 1).bind fun M10 =>
    some (M10 20 3, M10)
  else
    some ((-2), M)
set_option maxHeartbeats 4000000 in
set_option maxRecDepth 100000 in
theorem c_X9_keep (l : Launch) (g : tm_G) (A : Nat → Prop) (L : List Nat) (hD : ∀ M, va_D A (tm_ws g L M)) (hF : ∀ o, tm_all o → o ∈ L) (M : tm_M) (p1 : Int32) (R0 : Int32 × tm_M) (h : f_X9_keep M p1 = some R0) : Met l yX9_keep wsX9_keep { frames := 2, cells := 0, slots := 0, locals := 43 } (tm_PC g A L M [.ref (g.2.2 + 0), .int p1]) (tm_QI g A L R0) 0 0 A := by
  refine tm_start (cc := cX9_keep) (nL := 2) (ret := (some .int)) (F := tm_all) (plainFor_of_name (by decide)) rfl (Nat.le_of_ble_eq_true rfl) hD hF (fun p e s m args below meth c ls C0 hP hS hl => ?_)
  have hl : lv_has ls 2 [(0, .ref (g.2.2 + 0)), (1, .int p1)] := hl
  have C0 : tm_C p m c cX9_keep 2 s args wsX9_keep RX9 meth (some .int) g A L tm_all := C0
  obtain ⟨⟨hx, hb, hml, hown, hts⟩, hr, hlk, hK, hD, hG, hF⟩ := id C0
  unfold f_X9_keep at h
  refine lv_iload_n hx hb dX9_keep_0 rfl (lv_at hl 1 rfl) ?_
  refine lv_iconst (v := 0) hx hb dX9_keep_1 (by decide) ?_
  refine lv_iconst (v := 1) hx hb dX9_keep_2 (by decide) ?_
  obtain ⟨r1, e2, h⟩ := tm_bd_some h
  refine tm_backI (r0 := r1) (M0 := M) (fun _ q => q) (tm_callS (As := [.int p1, .int 0, .int 1]) (rest := []) ⟨hx, hb, hml, hown, hts⟩ hK hG hP hS (c_X9_outside l g A L hD hF M p1 0 1 r1 e2) (va_cwS 3 hts gX9_keep_X9_outside rfl rfl rfl (by decide +kernel) ⟨Nat.le_of_ble_eq_true rfl, Nat.le_of_ble_eq_true rfl⟩) rfl hl.1 (lv_room (Nat.le_of_ble_eq_true rfl)) dX9_keep_3 ⟨Nat.zero_le _, Nat.zero_le _⟩) hS (fun H locs hP hS => ?_)
  refine lv_if_eq (tgt := 12) hx hb dX9_keep_6 (by decide) (fun c3 => ?_) (fun c3 => ?_)
  · rw [if_pos c3] at h
    refine lv_aload_n hx hb dX9_keep_12 rfl (lv_at hl 0 rfl) ?_
    refine tm_get (C := RX9) (T := TX9) (N := 15) (v := .ref (g.2.2 + 29)) hx hb hts nX9_keep_X9 hown hK hP (hF 0 (by decide)) (tm_mkX9 (by decide) _) rfl 4 (by decide) (hts _ kX9_keep_0) rfl dX9_keep_13 ?_
    refine lv_iload_n hx hb dX9_keep_16 rfl (lv_at hl 1 rfl) ?_
    obtain ⟨x4, e5, h⟩ := tm_bd_some h
    refine tm_aald hx hb hK hP 4 (hF 29 (by decide)) (tm_mkY (n := 2) (by decide) (by decide)) rfl e5 dX9_keep_17 ?_
    refine lv_aload_n hx hb dX9_keep_18 rfl (lv_at hl 0 rfl) ?_
    refine tm_get (C := RX9) (T := TX9) (N := 15) (v := .ref (g.2.2 + 20)) hx hb hts nX9_keep_X9 hown hK hP (hF 0 (by decide)) (tm_mkX9 (by decide) _) rfl 3 (by decide) (hts _ kX9_keep_1) rfl dX9_keep_19 ?_
    obtain ⟨g9, h⟩ := tm_gd_some h
    obtain ⟨M8, e7, h⟩ := tm_bd_some h
    refine tm_backV (M0 := M8) (fun _ q => q) (tm_callV (As := [.ref (g.2.2 + 20)]) (rest := []) ⟨hx, hb, hml, hown, hts⟩ hK hG hP hS (c_X8_copy l g A L hD hF M x4 20 M8 e7) (cwV 1 hts gX9_keep_X8_copy rfl rfl rfl (by decide +kernel) ⟨Nat.le_of_ble_eq_true rfl, Nat.le_of_ble_eq_true rfl⟩) (tm_recv hK hP (hF _ (tm_lt g9)) (ci := 7) rfl (tm_mkX8 g9 _)) rfl hl.1 (lv_room (Nat.le_of_ble_eq_true rfl)) dX9_keep_22 ⟨Nat.zero_le _, Nat.zero_le _⟩) hS (fun H locs hP hS => ?_)
    refine lv_aload_n hx hb dX9_keep_25 rfl (lv_at hl 0 rfl) ?_
    refine tm_get (C := RX9) (T := TX9) (N := 15) (v := .ref (g.2.2 + 48)) hx hb hts nX9_keep_X9 hown hK hP (hF 0 (by decide)) (tm_mkX9 (by decide) _) rfl 5 (by decide) (hts _ kX9_keep_2) rfl dX9_keep_26 ?_
    refine lv_iload_n hx hb dX9_keep_29 rfl (lv_at hl 1 rfl) ?_
    refine lv_iconst (v := 1) hx hb dX9_keep_30 (by decide) ?_
    obtain ⟨M10, e11, h⟩ := tm_bd_some h
    refine tm_zast hx hb hK hP hD hS (hF 48 (by decide)) (tm_mkZ (n := 2) (by decide) (by decide)) (by unfold tm_isB; decide) e11 dX9_keep_31 (fun H locs hP hS => ?_)
    refine lv_aload_n hx hb dX9_keep_32 rfl (lv_at hl 0 rfl) ?_
    refine tm_get (C := RX9) (T := TX9) (N := 15) (v := .ref (g.2.2 + 20)) hx hb hts nX9_keep_X9 hown hK hP (hF 0 (by decide)) (tm_mkX9 (by decide) _) rfl 3 (by decide) (hts _ kX9_keep_1) rfl dX9_keep_33 ?_
    refine tm_get (C := RX8) (T := TX8) (N := 4) (v := .int (M10 20 3)) hx hb hts nX9_keep_X8 hown hK hP (hF 20 (by decide)) (tm_mkX8 (by decide) _) rfl 3 (by decide) (hts _ kX9_keep_3) rfl dX9_keep_36 ?_
    exact tm_iret C0 (Option.some.inj h) hP hS dX9_keep_39
  · rw [if_neg c3] at h
    refine lv_bipush (v := (-2)) hx hb dX9_keep_9 (by decide) ?_
    exact tm_iret C0 (Option.some.inj h) hP hS dX9_keep_11
/-! X9_back -/
theorem nX9_back_X9 : ∀ w ∈ wsX90, w ∈ wsX9_back := by decide +kernel
theorem kX9_back_0 : Cond.fieldLink RX9 50 "QuarrelDesk" "isKept" "[Z" ∈ wsX9_back := by decide +kernel
theorem kX9_back_1 : Cond.fieldLink RX9 43 "QuarrelDesk" "now" "LQuarrelDesk$Year;" ∈ wsX9_back := by decide +kernel
theorem kX9_back_2 : Cond.fieldLink RX9 46 "QuarrelDesk" "kept" "[LQuarrelDesk$Year;" ∈ wsX9_back := by decide +kernel
theorem kX9_back_3 : Cond.fieldLink RX9 175 "QuarrelDesk" "undos" "I" ∈ wsX9_back := by decide +kernel
theorem nX9_back_X8 : ∀ w ∈ wsX80, w ∈ wsX9_back := by decide +kernel
theorem kX9_back_4 : Cond.fieldLink RX9 133 "QuarrelDesk$Year" "day" "I" ∈ wsX9_back := by decide +kernel
def f_X9_back (M : tm_M) (p1 : Int32) : Option (Int32 × tm_M) :=
  (f_X9_outside p1 0 1).bind fun r1 =>
  if r1 = 0 then
    (tm_rd M 48 2 p1).bind fun x4 =>
    if x4 = 0 then
      some ((-4), M)
    else
      (tm_rdr 29 2 p1).bind fun x7 =>
      (f_X8_copy M 20 x7).bind fun M11 =>
      (some (tm_st M11 0 8 0)).bind fun M12 =>
      some (M12 20 3, M12)
  else
    some ((-2), M)
set_option maxHeartbeats 4000000 in
set_option maxRecDepth 100000 in
theorem c_X9_back (l : Launch) (g : tm_G) (A : Nat → Prop) (L : List Nat) (hD : ∀ M, va_D A (tm_ws g L M)) (hF : ∀ o, tm_all o → o ∈ L) (M : tm_M) (p1 : Int32) (R0 : Int32 × tm_M) (h : f_X9_back M p1 = some R0) : Met l yX9_back wsX9_back { frames := 2, cells := 0, slots := 0, locals := 43 } (tm_PC g A L M [.ref (g.2.2 + 0), .int p1]) (tm_QI g A L R0) 0 0 A := by
  refine tm_start (cc := cX9_back) (nL := 2) (ret := (some .int)) (F := tm_all) (plainFor_of_name (by decide)) rfl (Nat.le_of_ble_eq_true rfl) hD hF (fun p e s m args below meth c ls C0 hP hS hl => ?_)
  have hl : lv_has ls 2 [(0, .ref (g.2.2 + 0)), (1, .int p1)] := hl
  have C0 : tm_C p m c cX9_back 2 s args wsX9_back RX9 meth (some .int) g A L tm_all := C0
  obtain ⟨⟨hx, hb, hml, hown, hts⟩, hr, hlk, hK, hD, hG, hF⟩ := id C0
  unfold f_X9_back at h
  refine lv_iload_n hx hb dX9_back_0 rfl (lv_at hl 1 rfl) ?_
  refine lv_iconst (v := 0) hx hb dX9_back_1 (by decide) ?_
  refine lv_iconst (v := 1) hx hb dX9_back_2 (by decide) ?_
  obtain ⟨r1, e2, h⟩ := tm_bd_some h
  refine tm_backI (r0 := r1) (M0 := M) (fun _ q => q) (tm_callS (As := [.int p1, .int 0, .int 1]) (rest := []) ⟨hx, hb, hml, hown, hts⟩ hK hG hP hS (c_X9_outside l g A L hD hF M p1 0 1 r1 e2) (va_cwS 3 hts gX9_back_X9_outside rfl rfl rfl (by decide +kernel) ⟨Nat.le_of_ble_eq_true rfl, Nat.le_of_ble_eq_true rfl⟩) rfl hl.1 (lv_room (Nat.le_of_ble_eq_true rfl)) dX9_back_3 ⟨Nat.zero_le _, Nat.zero_le _⟩) hS (fun H locs hP hS => ?_)
  refine lv_if_eq (tgt := 12) hx hb dX9_back_6 (by decide) (fun c3 => ?_) (fun c3 => ?_)
  · rw [if_pos c3] at h
    refine lv_aload_n hx hb dX9_back_12 rfl (lv_at hl 0 rfl) ?_
    refine tm_get (C := RX9) (T := TX9) (N := 15) (v := .ref (g.2.2 + 48)) hx hb hts nX9_back_X9 hown hK hP (hF 0 (by decide)) (tm_mkX9 (by decide) _) rfl 5 (by decide) (hts _ kX9_back_0) rfl dX9_back_13 ?_
    refine lv_iload_n hx hb dX9_back_16 rfl (lv_at hl 1 rfl) ?_
    obtain ⟨x4, e5, h⟩ := tm_bd_some h
    refine tm_zald hx hb hK hP (hF 48 (by decide)) (tm_mkZ (n := 2) (by decide) (by decide)) e5 dX9_back_17 ?_
    refine lv_if_ne (tgt := 24) hx hb dX9_back_18 (by decide) (fun c6 => ?_) (fun c6 => ?_)
    · rw [if_neg c6] at h
      refine lv_aload_n hx hb dX9_back_24 rfl (lv_at hl 0 rfl) ?_
      refine tm_get (C := RX9) (T := TX9) (N := 15) (v := .ref (g.2.2 + 20)) hx hb hts nX9_back_X9 hown hK hP (hF 0 (by decide)) (tm_mkX9 (by decide) _) rfl 3 (by decide) (hts _ kX9_back_1) rfl dX9_back_25 ?_
      refine lv_aload_n hx hb dX9_back_28 rfl (lv_at hl 0 rfl) ?_
      refine tm_get (C := RX9) (T := TX9) (N := 15) (v := .ref (g.2.2 + 29)) hx hb hts nX9_back_X9 hown hK hP (hF 0 (by decide)) (tm_mkX9 (by decide) _) rfl 4 (by decide) (hts _ kX9_back_2) rfl dX9_back_29 ?_
      refine lv_iload_n hx hb dX9_back_32 rfl (lv_at hl 1 rfl) ?_
      obtain ⟨x7, e8, h⟩ := tm_bd_some h
      refine tm_aald hx hb hK hP 4 (hF 29 (by decide)) (tm_mkY (n := 2) (by decide) (by decide)) rfl e8 dX9_back_33 ?_
      obtain ⟨M11, e10, h⟩ := tm_bd_some h
      refine tm_backV (M0 := M11) (fun _ q => q) (tm_callV (As := [.ref (g.2.2 + x7)]) (rest := []) ⟨hx, hb, hml, hown, hts⟩ hK hG hP hS (c_X8_copy l g A L hD hF M 20 x7 M11 e10) (cwV 1 hts gX9_back_X8_copy rfl rfl rfl (by decide +kernel) ⟨Nat.le_of_ble_eq_true rfl, Nat.le_of_ble_eq_true rfl⟩) (tm_recv hK hP (hF 20 (by decide)) (ci := 7) rfl (tm_mkX8 (by decide) _)) rfl hl.1 (lv_room (Nat.le_of_ble_eq_true rfl)) dX9_back_34 ⟨Nat.zero_le _, Nat.zero_le _⟩) hS (fun H locs hP hS => ?_)
      refine lv_aload_n hx hb dX9_back_37 rfl (lv_at hl 0 rfl) ?_
      refine lv_iconst (v := 0) hx hb dX9_back_38 (by decide) ?_
      obtain ⟨M12, e13, h⟩ := tm_bd_some h
      refine tm_put (C := RX9) (T := TX9) (N := 15) (ty := .int) (x := 0) hx hb hts nX9_back_X9 tyX9 tyX9_ok nmX9 hown hK hP hD hS (hF 0 (by decide)) (tm_mkX9 (by decide)) rfl 8 (by decide) (hts _ kX9_back_3) rfl (by decide +kernel) rfl rfl (Nat.le_of_ble_eq_true rfl) rfl (Option.some.inj e13) dX9_back_39 (fun H locs hP hS => ?_)
      refine lv_aload_n hx hb dX9_back_42 rfl (lv_at hl 0 rfl) ?_
      refine tm_get (C := RX9) (T := TX9) (N := 15) (v := .ref (g.2.2 + 20)) hx hb hts nX9_back_X9 hown hK hP (hF 0 (by decide)) (tm_mkX9 (by decide) _) rfl 3 (by decide) (hts _ kX9_back_1) rfl dX9_back_43 ?_
      refine tm_get (C := RX8) (T := TX8) (N := 4) (v := .int (M12 20 3)) hx hb hts nX9_back_X8 hown hK hP (hF 20 (by decide)) (tm_mkX8 (by decide) _) rfl 3 (by decide) (hts _ kX9_back_4) rfl dX9_back_46 ?_
      exact tm_iret C0 (Option.some.inj h) hP hS dX9_back_49
    · rw [if_pos c6] at h
      refine lv_bipush (v := (-4)) hx hb dX9_back_21 (by decide) ?_
      exact tm_iret C0 (Option.some.inj h) hP hS dX9_back_23
  · rw [if_neg c3] at h
    refine lv_bipush (v := (-2)) hx hb dX9_back_9 (by decide) ?_
    exact tm_iret C0 (Option.some.inj h) hP hS dX9_back_11
/-! X9_passTried -/
theorem nX9_passTried_X9 : ∀ w ∈ wsX90, w ∈ wsX9_passTried := by decide +kernel
theorem kX9_passTried_0 : Cond.fieldLink RX9 70 "QuarrelDesk" "tried" "LQuarrelDesk$Life;" ∈ wsX9_passTried := by decide +kernel
theorem kX9_passTried_1 : Cond.fieldLink RX9 43 "QuarrelDesk" "now" "LQuarrelDesk$Year;" ∈ wsX9_passTried := by decide +kernel
theorem nX9_passTried_X8 : ∀ w ∈ wsX80, w ∈ wsX9_passTried := by decide +kernel
theorem kX9_passTried_2 : Cond.fieldLink RX9 133 "QuarrelDesk$Year" "day" "I" ∈ wsX9_passTried := by decide +kernel
theorem kX9_passTried_3 : Cond.fieldLink RX9 140 "QuarrelDesk$Year" "terms" "LQuarrelDesk$Terms;" ∈ wsX9_passTried := by decide +kernel
def f_X9_passTried_L2 (k : Int32 → tm_M → Option tm_M) (w1 : Int32) : Nat → Int32 → tm_M → Option tm_M
  | 0, _, _ => none
  | n + 1, v2, M =>
    if w1 ≤ v2 then
      k v2 M
    else
      (f_X1_pass M 125 ((M 20 3) + v2) 21).bind fun r2 =>
      f_X9_passTried_L2 k w1 n (v2 + 1) r2.2
def f_X9_passTried (M : tm_M) (p1 : Int32) : Option tm_M :=
  f_X9_passTried_L2 (fun v4 M5 =>
    some M5) p1 1000 0 M
set_option maxHeartbeats 4000000 in
set_option maxRecDepth 100000 in
theorem w_X9_passTried_L2 {p : Program} {l : Launch} {e : Env} {s : State} {m : MethodId} {args : Array Value} {below : List Frame} {meth : Method} {c : Code} {g : tm_G} {A : Nat → Prop} {L : List Nat} (C0 : tm_C p m c cX9_passTried 3 s args wsX9_passTried RX9 meth none g A L tm_all) (w1 : Int32) (k : Int32 → tm_M → Option tm_M) (M0 : tm_M) (hk : ∀ (v2 : Int32) (M : tm_M), k v2 M = some M0 → ∀ (H : Heap) (locs : List Loc) (ls : Array Slot), va_P g.1 vwCl (tm_ws g L M) H → va_S A s.heap H locs → lv_has ls 3 [(0, .ref (g.2.2 + 0)), (1, .int w1), (2, .int v2)] → W p l e { frames := 4, cells := 0, slots := 0, locals := 88 } s m args below meth c H locs 0 0 (MQ below (tm_QV g A L M0) args s 0 0 A) (F0 m 37 ls [])) : ∀ (n : Nat) (v2 : Int32) (M : tm_M), f_X9_passTried_L2 k w1 n v2 M = some M0 → ∀ (H : Heap) (locs : List Loc) (ls : Array Slot), va_P g.1 vwCl (tm_ws g L M) H → va_S A s.heap H locs → lv_has ls 3 [(0, .ref (g.2.2 + 0)), (1, .int w1), (2, .int v2)] → W p l e { frames := 4, cells := 0, slots := 0, locals := 88 } s m args below meth c H locs 0 0 (MQ below (tm_QV g A L M0) args s 0 0 A) (F0 m 2 ls []) := by
  obtain ⟨⟨hx, hb, hml, hown, hts⟩, hr, hlk, hK, hD, hG, hF⟩ := id C0
  intro n
  induction n with
  | zero =>
    intro v2 M h
    simp [f_X9_passTried_L2] at h
  | succ n ih =>
    intro v2 M h H locs ls hP hS hl
    rw [f_X9_passTried_L2] at h
    refine lv_iload_n hx hb dX9_passTried_2 rfl (lv_at hl 2 rfl) ?_
    refine lv_iload_n hx hb dX9_passTried_3 rfl (lv_at hl 1 rfl) ?_
    refine lv_icmp_ge (tgt := 37) hx hb dX9_passTried_4 (by decide) (fun c1 => ?_) (fun c1 => ?_)
    · rw [if_pos c1] at h
      exact hk v2 M h _ _ _ hP hS (lv_sub hl [0, 1, 2] rfl)
    · rw [if_neg c1] at h
      refine lv_aload_n hx hb dX9_passTried_7 rfl (lv_at hl 0 rfl) ?_
      refine tm_get (C := RX9) (T := TX9) (N := 15) (v := .ref (g.2.2 + 125)) hx hb hts nX9_passTried_X9 hown hK hP (hF 0 (by decide)) (tm_mkX9 (by decide) _) rfl 13 (by decide) (hts _ kX9_passTried_0) rfl dX9_passTried_8 ?_
      refine lv_aload_n hx hb dX9_passTried_11 rfl (lv_at hl 0 rfl) ?_
      refine tm_get (C := RX9) (T := TX9) (N := 15) (v := .ref (g.2.2 + 20)) hx hb hts nX9_passTried_X9 hown hK hP (hF 0 (by decide)) (tm_mkX9 (by decide) _) rfl 3 (by decide) (hts _ kX9_passTried_1) rfl dX9_passTried_12 ?_
      refine tm_get (C := RX8) (T := TX8) (N := 4) (v := .int (M 20 3)) hx hb hts nX9_passTried_X8 hown hK hP (hF 20 (by decide)) (tm_mkX8 (by decide) _) rfl 3 (by decide) (hts _ kX9_passTried_2) rfl dX9_passTried_15 ?_
      refine lv_iload_n hx hb dX9_passTried_18 rfl (lv_at hl 2 rfl) ?_
      refine lv_iadd hx hb dX9_passTried_19 ?_
      refine lv_aload_n hx hb dX9_passTried_20 rfl (lv_at hl 0 rfl) ?_
      refine tm_get (C := RX9) (T := TX9) (N := 15) (v := .ref (g.2.2 + 20)) hx hb hts nX9_passTried_X9 hown hK hP (hF 0 (by decide)) (tm_mkX9 (by decide) _) rfl 3 (by decide) (hts _ kX9_passTried_1) rfl dX9_passTried_21 ?_
      refine tm_get (C := RX8) (T := TX8) (N := 4) (v := .ref (g.2.2 + 21)) hx hb hts nX9_passTried_X8 hown hK hP (hF 20 (by decide)) (tm_mkX8 (by decide) _) rfl 0 (by decide) (hts _ kX9_passTried_3) rfl dX9_passTried_24 ?_
      obtain ⟨r2, e3, h⟩ := tm_bd_some h
      refine tm_backI (r0 := r2.1) (M0 := r2.2) (fun _ q => q) (tm_callV (As := [.int ((M 20 3) + v2), .ref (g.2.2 + 21)]) (rest := []) ⟨hx, hb, hml, hown, hts⟩ hK hG hP hS (c_X1_pass l g A L hD hF M 125 ((M 20 3) + v2) 21 r2 e3) (cwV 2 hts gX9_passTried_X1_pass rfl rfl rfl (by decide +kernel) ⟨Nat.le_of_ble_eq_true rfl, Nat.le_of_ble_eq_true rfl⟩) (tm_recv hK hP (hF 125 (by decide)) (ci := 0) rfl (tm_mkX1 (by decide) _)) rfl hl.1 (lv_room (Nat.le_of_ble_eq_true rfl)) dX9_passTried_27 ⟨Nat.zero_le _, Nat.zero_le _⟩) hS (fun H locs hP hS => ?_)
      refine lv_pop hx hb dX9_passTried_30 rfl ?_
      refine lv_iinc (v := v2 + 1) (lv' := [(2, .int (v2 + 1)), (0, .ref (g.2.2 + 0)), (1, .int w1)]) hx hb dX9_passTried_31 hl (k := 2) rfl rfl (by decide) rfl (fun ls hl => ?_)
      refine lv_goto (tgt := 2) hx hb dX9_passTried_34 (by decide) ?_
      exact ih (v2 + 1) r2.2 h _ _ _ hP hS (lv_sub hl [1, 2, 0] rfl)
set_option maxHeartbeats 4000000 in
set_option maxRecDepth 100000 in
theorem c_X9_passTried (l : Launch) (g : tm_G) (A : Nat → Prop) (L : List Nat) (hD : ∀ M, va_D A (tm_ws g L M)) (hF : ∀ o, tm_all o → o ∈ L) (M : tm_M) (p1 : Int32) (M0 : tm_M) (h : f_X9_passTried M p1 = some M0) : Met l yX9_passTried wsX9_passTried { frames := 4, cells := 0, slots := 0, locals := 88 } (tm_PC g A L M [.ref (g.2.2 + 0), .int p1]) (tm_QV g A L M0) 0 0 A := by
  refine tm_start (cc := cX9_passTried) (nL := 3) (ret := none) (F := tm_all) (plainFor_of_name (by decide)) rfl (Nat.le_of_ble_eq_true rfl) hD hF (fun p e s m args below meth c ls C0 hP hS hl => ?_)
  have hl : lv_has ls 3 [(0, .ref (g.2.2 + 0)), (1, .int p1)] := hl
  have C0 : tm_C p m c cX9_passTried 3 s args wsX9_passTried RX9 meth none g A L tm_all := C0
  obtain ⟨⟨hx, hb, hml, hown, hts⟩, hr, hlk, hK, hD, hG, hF⟩ := id C0
  unfold f_X9_passTried at h
  refine lv_iconst (v := 0) hx hb dX9_passTried_0 (by decide) ?_
  refine lv_istore_n (lv' := [(2, .int 0), (0, .ref (g.2.2 + 0)), (1, .int p1)]) hx hb dX9_passTried_1 rfl hl (by decide) rfl (fun ls hl => ?_)
  refine w_X9_passTried_L2 C0 p1 _ M0 (fun v4 M5 h H locs ls hP hS hl => ?_) 1000 0 M h _ _ _ hP hS (lv_sub hl [1, 2, 0] rfl)
  exact tm_vret C0 (Option.some.inj h) hP hS dX9_passTried_37
/-! X9_tryDays -/
theorem nX9_tryDays_X9 : ∀ w ∈ wsX90, w ∈ wsX9_tryDays := by decide +kernel
theorem kX9_tryDays_0 : Cond.fieldLink RX9 70 "QuarrelDesk" "tried" "LQuarrelDesk$Life;" ∈ wsX9_tryDays := by decide +kernel
theorem kX9_tryDays_1 : Cond.fieldLink RX9 43 "QuarrelDesk" "now" "LQuarrelDesk$Year;" ∈ wsX9_tryDays := by decide +kernel
theorem nX9_tryDays_X8 : ∀ w ∈ wsX80, w ∈ wsX9_tryDays := by decide +kernel
theorem kX9_tryDays_2 : Cond.fieldLink RX9 118 "QuarrelDesk$Year" "lives" "[LQuarrelDesk$Life;" ∈ wsX9_tryDays := by decide +kernel
def f_X9_tryDays (M : tm_M) (p1 : Int32) (p2 : Int32) : Option tm_M :=
  (tm_rdr 22 6 p1).bind fun x1 =>
  (f_X1_copy M 125 x1).bind fun M5 =>
  (f_X9_passTried M5 p2).bind fun M8 =>
  some M8
set_option maxHeartbeats 4000000 in
set_option maxRecDepth 100000 in
theorem c_X9_tryDays (l : Launch) (g : tm_G) (A : Nat → Prop) (L : List Nat) (hD : ∀ M, va_D A (tm_ws g L M)) (hF : ∀ o, tm_all o → o ∈ L) (M : tm_M) (p1 : Int32) (p2 : Int32) (M0 : tm_M) (h : f_X9_tryDays M p1 p2 = some M0) : Met l yX9_tryDays wsX9_tryDays { frames := 5, cells := 0, slots := 0, locals := 110 } (tm_PC g A L M [.ref (g.2.2 + 0), .int p1, .int p2]) (tm_QV g A L M0) 0 0 A := by
  refine tm_start (cc := cX9_tryDays) (nL := 3) (ret := none) (F := tm_all) (plainFor_of_name (by decide)) rfl (Nat.le_of_ble_eq_true rfl) hD hF (fun p e s m args below meth c ls C0 hP hS hl => ?_)
  have hl : lv_has ls 3 [(0, .ref (g.2.2 + 0)), (1, .int p1), (2, .int p2)] := hl
  have C0 : tm_C p m c cX9_tryDays 3 s args wsX9_tryDays RX9 meth none g A L tm_all := C0
  obtain ⟨⟨hx, hb, hml, hown, hts⟩, hr, hlk, hK, hD, hG, hF⟩ := id C0
  unfold f_X9_tryDays at h
  refine lv_aload_n hx hb dX9_tryDays_0 rfl (lv_at hl 0 rfl) ?_
  refine tm_get (C := RX9) (T := TX9) (N := 15) (v := .ref (g.2.2 + 125)) hx hb hts nX9_tryDays_X9 hown hK hP (hF 0 (by decide)) (tm_mkX9 (by decide) _) rfl 13 (by decide) (hts _ kX9_tryDays_0) rfl dX9_tryDays_1 ?_
  refine lv_aload_n hx hb dX9_tryDays_4 rfl (lv_at hl 0 rfl) ?_
  refine tm_get (C := RX9) (T := TX9) (N := 15) (v := .ref (g.2.2 + 20)) hx hb hts nX9_tryDays_X9 hown hK hP (hF 0 (by decide)) (tm_mkX9 (by decide) _) rfl 3 (by decide) (hts _ kX9_tryDays_1) rfl dX9_tryDays_5 ?_
  refine tm_get (C := RX8) (T := TX8) (N := 4) (v := .ref (g.2.2 + 22)) hx hb hts nX9_tryDays_X8 hown hK hP (hF 20 (by decide)) (tm_mkX8 (by decide) _) rfl 1 (by decide) (hts _ kX9_tryDays_2) rfl dX9_tryDays_8 ?_
  refine lv_iload_n hx hb dX9_tryDays_11 rfl (lv_at hl 1 rfl) ?_
  obtain ⟨x1, e2, h⟩ := tm_bd_some h
  refine tm_aald hx hb hK hP 3 (hF 22 (by decide)) (tm_mkL (by decide)) rfl e2 dX9_tryDays_12 ?_
  obtain ⟨M5, e4, h⟩ := tm_bd_some h
  refine tm_backV (M0 := M5) (fun _ q => q) (tm_callV (As := [.ref (g.2.2 + x1)]) (rest := []) ⟨hx, hb, hml, hown, hts⟩ hK hG hP hS (c_X1_copy l g A L hD hF M 125 x1 M5 e4) (cwV 1 hts gX9_tryDays_X1_copy rfl rfl rfl (by decide +kernel) ⟨Nat.le_of_ble_eq_true rfl, Nat.le_of_ble_eq_true rfl⟩) (tm_recv hK hP (hF 125 (by decide)) (ci := 0) rfl (tm_mkX1 (by decide) _)) rfl hl.1 (lv_room (Nat.le_of_ble_eq_true rfl)) dX9_tryDays_13 ⟨Nat.zero_le _, Nat.zero_le _⟩) hS (fun H locs hP hS => ?_)
  refine lv_aload_n hx hb dX9_tryDays_16 rfl (lv_at hl 0 rfl) ?_
  refine lv_iload_n hx hb dX9_tryDays_17 rfl (lv_at hl 2 rfl) ?_
  obtain ⟨M8, e7, h⟩ := tm_bd_some h
  refine tm_backV (M0 := M8) (fun _ q => q) (tm_callV (As := [.int p2]) (rest := []) ⟨hx, hb, hml, hown, hts⟩ hK hG hP hS (c_X9_passTried l g A L hD hF M5 p2 M8 e7) (cwV 1 hts gX9_tryDays_X9_passTried rfl rfl rfl (by decide +kernel) ⟨Nat.le_of_ble_eq_true rfl, Nat.le_of_ble_eq_true rfl⟩) (tm_recv hK hP (hF 0 (by decide)) (ci := 8) rfl (tm_mkX9 (by decide) _)) rfl hl.1 (lv_room (Nat.le_of_ble_eq_true rfl)) dX9_tryDays_18 ⟨Nat.zero_le _, Nat.zero_le _⟩) hS (fun H locs hP hS => ?_)
  exact tm_vret C0 (Option.some.inj h) hP hS dX9_tryDays_21
/-! X9_balance -/
theorem nX9_balance_X9 : ∀ w ∈ wsX90, w ∈ wsX9_balance := by decide +kernel
theorem kX9_balance_0 : Cond.fieldLink RX9 43 "QuarrelDesk" "now" "LQuarrelDesk$Year;" ∈ wsX9_balance := by decide +kernel
theorem nX9_balance_X8 : ∀ w ∈ wsX80, w ∈ wsX9_balance := by decide +kernel
theorem kX9_balance_1 : Cond.fieldLink RX9 89 "QuarrelDesk$Year" "couples" "I" ∈ wsX9_balance := by decide +kernel
theorem kX9_balance_2 : Cond.fieldLink RX9 70 "QuarrelDesk" "tried" "LQuarrelDesk$Life;" ∈ wsX9_balance := by decide +kernel
theorem nX9_balance_X1 : ∀ w ∈ wsX10, w ∈ wsX9_balance := by decide +kernel
theorem kX9_balance_3 : Cond.fieldLink RX9 188 "QuarrelDesk$Life" "paid" "I" ∈ wsX9_balance := by decide +kernel
theorem kX9_balance_4 : Cond.fieldLink RX9 191 "QuarrelDesk$Life" "claimed" "I" ∈ wsX9_balance := by decide +kernel
theorem kX9_balance_5 : Cond.constant RX9 194 (999999) ∈ wsX9_balance := by decide +kernel
def f_X9_balance_L17 (k : Int32 → Int32 → tm_M → Option (Int32 × tm_M)) (w1 : Int32) : Nat → Int32 → Int32 → tm_M → Option (Int32 × tm_M)
  | 0, _, _, _ => none
  | n + 1, v2, v3, M =>
    if (M 20 2) ≤ v3 then
      k v2 v3 M
    else
      if 6 ≤ v3 then
        k v2 v3 M
      else
        (f_X9_tryDays M v3 w1).bind fun M8 =>
        (some (v2 + ((M8 125 8) - (M8 125 9)))).bind fun x9 =>
        f_X9_balance_L17 k w1 n x9 (v3 + 1) M8
def f_X9_balance (M : tm_M) (p1 : Int32) : Option (Int32 × tm_M) :=
  (f_X9_outside p1 0 60).bind fun r1 =>
  if r1 = 0 then
    f_X9_balance_L17 (fun v10 v11 M12 =>
      some (v10 + 999999, M12)) p1 1000 0 0 M
  else
    some ((-3), M)
set_option maxHeartbeats 4000000 in
set_option maxRecDepth 100000 in
theorem w_X9_balance_L17 {p : Program} {l : Launch} {e : Env} {s : State} {m : MethodId} {args : Array Value} {below : List Frame} {meth : Method} {c : Code} {g : tm_G} {A : Nat → Prop} {L : List Nat} (C0 : tm_C p m c cX9_balance 4 s args wsX9_balance RX9 meth (some .int) g A L tm_all) (w1 : Int32) (k : Int32 → Int32 → tm_M → Option (Int32 × tm_M)) (R0 : Int32 × tm_M) (hk : ∀ (v2 : Int32) (v3 : Int32) (M : tm_M), k v2 v3 M = some R0 → ∀ (H : Heap) (locs : List Loc) (ls : Array Slot), va_P g.1 vwCl (tm_ws g L M) H → va_S A s.heap H locs → lv_has ls 4 [(0, .ref (g.2.2 + 0)), (1, .int w1), (2, .int v2), (3, .int v3)] → W p l e { frames := 6, cells := 0, slots := 0, locals := 132 } s m args below meth c H locs 0 0 (MQ below (tm_QI g A L R0) args s 0 0 A) (F0 m 64 ls [])) : ∀ (n : Nat) (v2 : Int32) (v3 : Int32) (M : tm_M), f_X9_balance_L17 k w1 n v2 v3 M = some R0 → ∀ (H : Heap) (locs : List Loc) (ls : Array Slot), va_P g.1 vwCl (tm_ws g L M) H → va_S A s.heap H locs → lv_has ls 4 [(0, .ref (g.2.2 + 0)), (1, .int w1), (2, .int v2), (3, .int v3)] → W p l e { frames := 6, cells := 0, slots := 0, locals := 132 } s m args below meth c H locs 0 0 (MQ below (tm_QI g A L R0) args s 0 0 A) (F0 m 17 ls []) := by
  obtain ⟨⟨hx, hb, hml, hown, hts⟩, hr, hlk, hK, hD, hG, hF⟩ := id C0
  intro n
  induction n with
  | zero =>
    intro v2 v3 M h
    simp [f_X9_balance_L17] at h
  | succ n ih =>
    intro v2 v3 M h H locs ls hP hS hl
    rw [f_X9_balance_L17] at h
    refine lv_iload_n hx hb dX9_balance_17 rfl (lv_at hl 3 rfl) ?_
    refine lv_aload_n hx hb dX9_balance_18 rfl (lv_at hl 0 rfl) ?_
    refine tm_get (C := RX9) (T := TX9) (N := 15) (v := .ref (g.2.2 + 20)) hx hb hts nX9_balance_X9 hown hK hP (hF 0 (by decide)) (tm_mkX9 (by decide) _) rfl 3 (by decide) (hts _ kX9_balance_0) rfl dX9_balance_19 ?_
    refine tm_get (C := RX8) (T := TX8) (N := 4) (v := .int (M 20 2)) hx hb hts nX9_balance_X8 hown hK hP (hF 20 (by decide)) (tm_mkX8 (by decide) _) rfl 2 (by decide) (hts _ kX9_balance_1) rfl dX9_balance_22 ?_
    refine lv_icmp_ge (tgt := 64) hx hb dX9_balance_25 (by decide) (fun c4 => ?_) (fun c4 => ?_)
    · rw [if_pos c4] at h
      exact hk v2 v3 M h _ _ _ hP hS (lv_sub hl [0, 1, 2, 3] rfl)
    · rw [if_neg c4] at h
      refine lv_iload_n hx hb dX9_balance_28 rfl (lv_at hl 3 rfl) ?_
      refine lv_bipush (v := 6) hx hb dX9_balance_29 (by decide) ?_
      refine lv_icmp_ge (tgt := 64) hx hb dX9_balance_31 (by decide) (fun c5 => ?_) (fun c5 => ?_)
      · rw [if_pos c5] at h
        exact hk v2 v3 M h _ _ _ hP hS (lv_sub hl [0, 1, 2, 3] rfl)
      · rw [if_neg c5] at h
        refine lv_aload_n hx hb dX9_balance_34 rfl (lv_at hl 0 rfl) ?_
        refine lv_iload_n hx hb dX9_balance_35 rfl (lv_at hl 3 rfl) ?_
        refine lv_iload_n hx hb dX9_balance_36 rfl (lv_at hl 1 rfl) ?_
        obtain ⟨M8, e7, h⟩ := tm_bd_some h
        refine tm_backV (M0 := M8) (fun _ q => q) (tm_callV (As := [.int v3, .int w1]) (rest := []) ⟨hx, hb, hml, hown, hts⟩ hK hG hP hS (c_X9_tryDays l g A L hD hF M v3 w1 M8 e7) (cwV 2 hts gX9_balance_X9_tryDays rfl rfl rfl (by decide +kernel) ⟨Nat.le_of_ble_eq_true rfl, Nat.le_of_ble_eq_true rfl⟩) (tm_recv hK hP (hF 0 (by decide)) (ci := 8) rfl (tm_mkX9 (by decide) _)) rfl hl.1 (lv_room (Nat.le_of_ble_eq_true rfl)) dX9_balance_37 ⟨Nat.zero_le _, Nat.zero_le _⟩) hS (fun H locs hP hS => ?_)
        refine lv_iload_n hx hb dX9_balance_40 rfl (lv_at hl 2 rfl) ?_
        refine lv_aload_n hx hb dX9_balance_41 rfl (lv_at hl 0 rfl) ?_
        refine tm_get (C := RX9) (T := TX9) (N := 15) (v := .ref (g.2.2 + 125)) hx hb hts nX9_balance_X9 hown hK hP (hF 0 (by decide)) (tm_mkX9 (by decide) _) rfl 13 (by decide) (hts _ kX9_balance_2) rfl dX9_balance_42 ?_
        refine tm_get (C := RX1) (T := TX1) (N := 12) (v := .int (M8 125 8)) hx hb hts nX9_balance_X1 hown hK hP (hF 125 (by decide)) (tm_mkX1 (by decide) _) rfl 8 (by decide) (hts _ kX9_balance_3) rfl dX9_balance_45 ?_
        refine lv_aload_n hx hb dX9_balance_48 rfl (lv_at hl 0 rfl) ?_
        refine tm_get (C := RX9) (T := TX9) (N := 15) (v := .ref (g.2.2 + 125)) hx hb hts nX9_balance_X9 hown hK hP (hF 0 (by decide)) (tm_mkX9 (by decide) _) rfl 13 (by decide) (hts _ kX9_balance_2) rfl dX9_balance_49 ?_
        refine tm_get (C := RX1) (T := TX1) (N := 12) (v := .int (M8 125 9)) hx hb hts nX9_balance_X1 hown hK hP (hF 125 (by decide)) (tm_mkX1 (by decide) _) rfl 9 (by decide) (hts _ kX9_balance_4) rfl dX9_balance_52 ?_
        refine lv_isub hx hb dX9_balance_55 ?_
        refine lv_iadd hx hb dX9_balance_56 ?_
        refine tm_nam h (fun x9 h => ?_)
        refine lv_istore_n (lv' := [(2, .int x9), (0, .ref (g.2.2 + 0)), (1, .int w1), (3, .int v3)]) hx hb dX9_balance_57 rfl hl (by decide) rfl (fun ls hl => ?_)
        refine lv_iinc (v := v3 + 1) (lv' := [(3, .int (v3 + 1)), (2, .int x9), (0, .ref (g.2.2 + 0)), (1, .int w1)]) hx hb dX9_balance_58 hl (k := 3) rfl rfl (by decide) rfl (fun ls hl => ?_)
        refine lv_goto (tgt := 17) hx hb dX9_balance_61 (by decide) ?_
        exact ih x9 (v3 + 1) M8 h _ _ _ hP hS (lv_sub hl [2, 3, 1, 0] rfl)
set_option maxHeartbeats 4000000 in
set_option maxRecDepth 100000 in
theorem c_X9_balance (l : Launch) (g : tm_G) (A : Nat → Prop) (L : List Nat) (hD : ∀ M, va_D A (tm_ws g L M)) (hF : ∀ o, tm_all o → o ∈ L) (M : tm_M) (p1 : Int32) (R0 : Int32 × tm_M) (h : f_X9_balance M p1 = some R0) : Met l yX9_balance wsX9_balance { frames := 6, cells := 0, slots := 0, locals := 132 } (tm_PC g A L M [.ref (g.2.2 + 0), .int p1]) (tm_QI g A L R0) 0 0 A := by
  refine tm_start (cc := cX9_balance) (nL := 4) (ret := (some .int)) (F := tm_all) (plainFor_of_name (by decide)) rfl (Nat.le_of_ble_eq_true rfl) hD hF (fun p e s m args below meth c ls C0 hP hS hl => ?_)
  have hl : lv_has ls 4 [(0, .ref (g.2.2 + 0)), (1, .int p1)] := hl
  have C0 : tm_C p m c cX9_balance 4 s args wsX9_balance RX9 meth (some .int) g A L tm_all := C0
  obtain ⟨⟨hx, hb, hml, hown, hts⟩, hr, hlk, hK, hD, hG, hF⟩ := id C0
  unfold f_X9_balance at h
  refine lv_iload_n hx hb dX9_balance_0 rfl (lv_at hl 1 rfl) ?_
  refine lv_iconst (v := 0) hx hb dX9_balance_1 (by decide) ?_
  refine lv_bipush (v := 60) hx hb dX9_balance_2 (by decide) ?_
  obtain ⟨r1, e2, h⟩ := tm_bd_some h
  refine tm_backI (r0 := r1) (M0 := M) (fun _ q => q) (tm_callS (As := [.int p1, .int 0, .int 60]) (rest := []) ⟨hx, hb, hml, hown, hts⟩ hK hG hP hS (c_X9_outside l g A L hD hF M p1 0 60 r1 e2) (va_cwS 3 hts gX9_balance_X9_outside rfl rfl rfl (by decide +kernel) ⟨Nat.le_of_ble_eq_true rfl, Nat.le_of_ble_eq_true rfl⟩) rfl hl.1 (lv_room (Nat.le_of_ble_eq_true rfl)) dX9_balance_4 ⟨Nat.zero_le _, Nat.zero_le _⟩) hS (fun H locs hP hS => ?_)
  refine lv_if_eq (tgt := 13) hx hb dX9_balance_7 (by decide) (fun c3 => ?_) (fun c3 => ?_)
  · rw [if_pos c3] at h
    refine lv_iconst (v := 0) hx hb dX9_balance_13 (by decide) ?_
    refine lv_istore_n (lv' := [(2, .int 0), (0, .ref (g.2.2 + 0)), (1, .int p1)]) hx hb dX9_balance_14 rfl hl (by decide) rfl (fun ls hl => ?_)
    refine lv_iconst (v := 0) hx hb dX9_balance_15 (by decide) ?_
    refine lv_istore_n (lv' := [(3, .int 0), (2, .int 0), (0, .ref (g.2.2 + 0)), (1, .int p1)]) hx hb dX9_balance_16 rfl hl (by decide) rfl (fun ls hl => ?_)
    refine w_X9_balance_L17 C0 p1 _ R0 (fun v10 v11 M12 h H locs ls hP hS hl => ?_) 1000 0 0 M h _ _ _ hP hS (lv_sub hl [2, 3, 1, 0] rfl)
    refine lv_iload_n hx hb dX9_balance_64 rfl (lv_at hl 2 rfl) ?_
    refine lv_ldc (v := 999999) hx hb hown (hts _ kX9_balance_5) dX9_balance_65 ?_
    refine lv_iadd hx hb dX9_balance_67 ?_
    exact tm_iret C0 (Option.some.inj h) hP hS dX9_balance_68
  · rw [if_neg c3] at h
    refine lv_bipush (v := (-3)) hx hb dX9_balance_10 (by decide) ?_
    exact tm_iret C0 (Option.some.inj h) hP hS dX9_balance_12
/-! X9_strain -/
theorem nX9_strain_X9 : ∀ w ∈ wsX90, w ∈ wsX9_strain := by decide +kernel
theorem kX9_strain_0 : Cond.fieldLink RX9 70 "QuarrelDesk" "tried" "LQuarrelDesk$Life;" ∈ wsX9_strain := by decide +kernel
theorem nX9_strain_X1 : ∀ w ∈ wsX10, w ∈ wsX9_strain := by decide +kernel
theorem kX9_strain_1 : Cond.fieldLink RX9 159 "QuarrelDesk$Life" "strain" "I" ∈ wsX9_strain := by decide +kernel
def f_X9_strain (M : tm_M) (p1 : Int32) (p2 : Int32) : Option (Int32 × tm_M) :=
  (f_X9_unknown M p1).bind fun r1 =>
  if r1 = 0 then
    (f_X9_outside p2 0 60).bind fun r4 =>
    if r4 = 0 then
      (f_X9_tryDays M p1 p2).bind fun M9 =>
      some (M9 125 2, M9)
    else
      some ((-3), M)
  else
    some ((-2), M)
set_option maxHeartbeats 4000000 in
set_option maxRecDepth 100000 in
theorem c_X9_strain (l : Launch) (g : tm_G) (A : Nat → Prop) (L : List Nat) (hD : ∀ M, va_D A (tm_ws g L M)) (hF : ∀ o, tm_all o → o ∈ L) (M : tm_M) (p1 : Int32) (p2 : Int32) (R0 : Int32 × tm_M) (h : f_X9_strain M p1 p2 = some R0) : Met l yX9_strain wsX9_strain { frames := 6, cells := 0, slots := 0, locals := 132 } (tm_PC g A L M [.ref (g.2.2 + 0), .int p1, .int p2]) (tm_QI g A L R0) 0 0 A := by
  refine tm_start (cc := cX9_strain) (nL := 3) (ret := (some .int)) (F := tm_all) (plainFor_of_name (by decide)) rfl (Nat.le_of_ble_eq_true rfl) hD hF (fun p e s m args below meth c ls C0 hP hS hl => ?_)
  have hl : lv_has ls 3 [(0, .ref (g.2.2 + 0)), (1, .int p1), (2, .int p2)] := hl
  have C0 : tm_C p m c cX9_strain 3 s args wsX9_strain RX9 meth (some .int) g A L tm_all := C0
  obtain ⟨⟨hx, hb, hml, hown, hts⟩, hr, hlk, hK, hD, hG, hF⟩ := id C0
  unfold f_X9_strain at h
  refine lv_aload_n hx hb dX9_strain_0 rfl (lv_at hl 0 rfl) ?_
  refine lv_iload_n hx hb dX9_strain_1 rfl (lv_at hl 1 rfl) ?_
  obtain ⟨r1, e2, h⟩ := tm_bd_some h
  refine tm_backI (r0 := r1) (M0 := M) (fun _ q => q) (tm_callV (As := [.int p1]) (rest := []) ⟨hx, hb, hml, hown, hts⟩ hK hG hP hS (c_X9_unknown l g A L hD hF M p1 r1 e2) (cwV 1 hts gX9_strain_X9_unknown rfl rfl rfl (by decide +kernel) ⟨Nat.le_of_ble_eq_true rfl, Nat.le_of_ble_eq_true rfl⟩) (tm_recv hK hP (hF 0 (by decide)) (ci := 8) rfl (tm_mkX9 (by decide) _)) rfl hl.1 (lv_room (Nat.le_of_ble_eq_true rfl)) dX9_strain_2 ⟨Nat.zero_le _, Nat.zero_le _⟩) hS (fun H locs hP hS => ?_)
  refine lv_if_eq (tgt := 11) hx hb dX9_strain_5 (by decide) (fun c3 => ?_) (fun c3 => ?_)
  · rw [if_pos c3] at h
    refine lv_iload_n hx hb dX9_strain_11 rfl (lv_at hl 2 rfl) ?_
    refine lv_iconst (v := 0) hx hb dX9_strain_12 (by decide) ?_
    refine lv_bipush (v := 60) hx hb dX9_strain_13 (by decide) ?_
    obtain ⟨r4, e5, h⟩ := tm_bd_some h
    refine tm_backI (r0 := r4) (M0 := M) (fun _ q => q) (tm_callS (As := [.int p2, .int 0, .int 60]) (rest := []) ⟨hx, hb, hml, hown, hts⟩ hK hG hP hS (c_X9_outside l g A L hD hF M p2 0 60 r4 e5) (va_cwS 3 hts gX9_strain_X9_outside rfl rfl rfl (by decide +kernel) ⟨Nat.le_of_ble_eq_true rfl, Nat.le_of_ble_eq_true rfl⟩) rfl hl.1 (lv_room (Nat.le_of_ble_eq_true rfl)) dX9_strain_15 ⟨Nat.zero_le _, Nat.zero_le _⟩) hS (fun H locs hP hS => ?_)
    refine lv_if_eq (tgt := 24) hx hb dX9_strain_18 (by decide) (fun c6 => ?_) (fun c6 => ?_)
    · rw [if_pos c6] at h
      refine lv_aload_n hx hb dX9_strain_24 rfl (lv_at hl 0 rfl) ?_
      refine lv_iload_n hx hb dX9_strain_25 rfl (lv_at hl 1 rfl) ?_
      refine lv_iload_n hx hb dX9_strain_26 rfl (lv_at hl 2 rfl) ?_
      obtain ⟨M9, e8, h⟩ := tm_bd_some h
      refine tm_backV (M0 := M9) (fun _ q => q) (tm_callV (As := [.int p1, .int p2]) (rest := []) ⟨hx, hb, hml, hown, hts⟩ hK hG hP hS (c_X9_tryDays l g A L hD hF M p1 p2 M9 e8) (cwV 2 hts gX9_strain_X9_tryDays rfl rfl rfl (by decide +kernel) ⟨Nat.le_of_ble_eq_true rfl, Nat.le_of_ble_eq_true rfl⟩) (tm_recv hK hP (hF 0 (by decide)) (ci := 8) rfl (tm_mkX9 (by decide) _)) rfl hl.1 (lv_room (Nat.le_of_ble_eq_true rfl)) dX9_strain_27 ⟨Nat.zero_le _, Nat.zero_le _⟩) hS (fun H locs hP hS => ?_)
      refine lv_aload_n hx hb dX9_strain_30 rfl (lv_at hl 0 rfl) ?_
      refine tm_get (C := RX9) (T := TX9) (N := 15) (v := .ref (g.2.2 + 125)) hx hb hts nX9_strain_X9 hown hK hP (hF 0 (by decide)) (tm_mkX9 (by decide) _) rfl 13 (by decide) (hts _ kX9_strain_0) rfl dX9_strain_31 ?_
      refine tm_get (C := RX1) (T := TX1) (N := 12) (v := .int (M9 125 2)) hx hb hts nX9_strain_X1 hown hK hP (hF 125 (by decide)) (tm_mkX1 (by decide) _) rfl 2 (by decide) (hts _ kX9_strain_1) rfl dX9_strain_34 ?_
      exact tm_iret C0 (Option.some.inj h) hP hS dX9_strain_37
    · rw [if_neg c6] at h
      refine lv_bipush (v := (-3)) hx hb dX9_strain_21 (by decide) ?_
      exact tm_iret C0 (Option.some.inj h) hP hS dX9_strain_23
  · rw [if_neg c3] at h
    refine lv_bipush (v := (-2)) hx hb dX9_strain_8 (by decide) ?_
    exact tm_iret C0 (Option.some.inj h) hP hS dX9_strain_10
/-! X9_first -/
theorem nX9_first_X9 : ∀ w ∈ wsX90, w ∈ wsX9_first := by decide +kernel
theorem kX9_first_0 : Cond.fieldLink RX9 70 "QuarrelDesk" "tried" "LQuarrelDesk$Life;" ∈ wsX9_first := by decide +kernel
theorem kX9_first_1 : Cond.fieldLink RX9 43 "QuarrelDesk" "now" "LQuarrelDesk$Year;" ∈ wsX9_first := by decide +kernel
theorem nX9_first_X8 : ∀ w ∈ wsX80, w ∈ wsX9_first := by decide +kernel
theorem kX9_first_2 : Cond.fieldLink RX9 118 "QuarrelDesk$Year" "lives" "[LQuarrelDesk$Life;" ∈ wsX9_first := by decide +kernel
theorem kX9_first_3 : Cond.fieldLink RX9 133 "QuarrelDesk$Year" "day" "I" ∈ wsX9_first := by decide +kernel
theorem kX9_first_4 : Cond.fieldLink RX9 140 "QuarrelDesk$Year" "terms" "LQuarrelDesk$Terms;" ∈ wsX9_first := by decide +kernel
def f_X9_first_L29 (k : Int32 → tm_M → Option (Int32 × tm_M)) (w1 : Int32) : Nat → Int32 → tm_M → Option (Int32 × tm_M)
  | 0, _, _ => none
  | n + 1, v2, M =>
    if 60 ≤ v2 then
      k v2 M
    else
      (f_X1_pass M 125 ((M 20 3) + v2) 21).bind fun r10 =>
      if r10.1 = 0 then
        f_X9_first_L29 k w1 n (v2 + 1) r10.2
      else
        some (v2 + 1, r10.2)
def f_X9_first (M : tm_M) (p1 : Int32) : Option (Int32 × tm_M) :=
  (f_X9_unknown M p1).bind fun r1 =>
  if r1 = 0 then
    (tm_rdr 22 6 p1).bind fun x4 =>
    (f_X1_copy M 125 x4).bind fun M8 =>
    f_X9_first_L29 (fun v13 M14 =>
      some ((-1), M14)) p1 1000 0 M8
  else
    some ((-2), M)
set_option maxHeartbeats 4000000 in
set_option maxRecDepth 100000 in
theorem w_X9_first_L29 {p : Program} {l : Launch} {e : Env} {s : State} {m : MethodId} {args : Array Value} {below : List Frame} {meth : Method} {c : Code} {g : tm_G} {A : Nat → Prop} {L : List Nat} (C0 : tm_C p m c cX9_first 3 s args wsX9_first RX9 meth (some .int) g A L tm_all) (w1 : Int32) (k : Int32 → tm_M → Option (Int32 × tm_M)) (R0 : Int32 × tm_M) (hk : ∀ (v2 : Int32) (M : tm_M), k v2 M = some R0 → ∀ (H : Heap) (locs : List Loc) (ls : Array Slot), va_P g.1 vwCl (tm_ws g L M) H → va_S A s.heap H locs → lv_has ls 3 [(0, .ref (g.2.2 + 0)), (1, .int w1), (2, .int v2)] → W p l e { frames := 4, cells := 0, slots := 0, locals := 88 } s m args below meth c H locs 0 0 (MQ below (tm_QI g A L R0) args s 0 0 A) (F0 m 71 ls [])) : ∀ (n : Nat) (v2 : Int32) (M : tm_M), f_X9_first_L29 k w1 n v2 M = some R0 → ∀ (H : Heap) (locs : List Loc) (ls : Array Slot), va_P g.1 vwCl (tm_ws g L M) H → va_S A s.heap H locs → lv_has ls 3 [(0, .ref (g.2.2 + 0)), (1, .int w1), (2, .int v2)] → W p l e { frames := 4, cells := 0, slots := 0, locals := 88 } s m args below meth c H locs 0 0 (MQ below (tm_QI g A L R0) args s 0 0 A) (F0 m 29 ls []) := by
  obtain ⟨⟨hx, hb, hml, hown, hts⟩, hr, hlk, hK, hD, hG, hF⟩ := id C0
  intro n
  induction n with
  | zero =>
    intro v2 M h
    simp [f_X9_first_L29] at h
  | succ n ih =>
    intro v2 M h H locs ls hP hS hl
    rw [f_X9_first_L29] at h
    refine lv_iload_n hx hb dX9_first_29 rfl (lv_at hl 2 rfl) ?_
    refine lv_bipush (v := 60) hx hb dX9_first_30 (by decide) ?_
    refine lv_icmp_ge (tgt := 71) hx hb dX9_first_32 (by decide) (fun c9 => ?_) (fun c9 => ?_)
    · rw [if_pos c9] at h
      exact hk v2 M h _ _ _ hP hS (lv_sub hl [0, 1, 2] rfl)
    · rw [if_neg c9] at h
      refine lv_aload_n hx hb dX9_first_35 rfl (lv_at hl 0 rfl) ?_
      refine tm_get (C := RX9) (T := TX9) (N := 15) (v := .ref (g.2.2 + 125)) hx hb hts nX9_first_X9 hown hK hP (hF 0 (by decide)) (tm_mkX9 (by decide) _) rfl 13 (by decide) (hts _ kX9_first_0) rfl dX9_first_36 ?_
      refine lv_aload_n hx hb dX9_first_39 rfl (lv_at hl 0 rfl) ?_
      refine tm_get (C := RX9) (T := TX9) (N := 15) (v := .ref (g.2.2 + 20)) hx hb hts nX9_first_X9 hown hK hP (hF 0 (by decide)) (tm_mkX9 (by decide) _) rfl 3 (by decide) (hts _ kX9_first_1) rfl dX9_first_40 ?_
      refine tm_get (C := RX8) (T := TX8) (N := 4) (v := .int (M 20 3)) hx hb hts nX9_first_X8 hown hK hP (hF 20 (by decide)) (tm_mkX8 (by decide) _) rfl 3 (by decide) (hts _ kX9_first_3) rfl dX9_first_43 ?_
      refine lv_iload_n hx hb dX9_first_46 rfl (lv_at hl 2 rfl) ?_
      refine lv_iadd hx hb dX9_first_47 ?_
      refine lv_aload_n hx hb dX9_first_48 rfl (lv_at hl 0 rfl) ?_
      refine tm_get (C := RX9) (T := TX9) (N := 15) (v := .ref (g.2.2 + 20)) hx hb hts nX9_first_X9 hown hK hP (hF 0 (by decide)) (tm_mkX9 (by decide) _) rfl 3 (by decide) (hts _ kX9_first_1) rfl dX9_first_49 ?_
      refine tm_get (C := RX8) (T := TX8) (N := 4) (v := .ref (g.2.2 + 21)) hx hb hts nX9_first_X8 hown hK hP (hF 20 (by decide)) (tm_mkX8 (by decide) _) rfl 0 (by decide) (hts _ kX9_first_4) rfl dX9_first_52 ?_
      obtain ⟨r10, e11, h⟩ := tm_bd_some h
      refine tm_backI (r0 := r10.1) (M0 := r10.2) (fun _ q => q) (tm_callV (As := [.int ((M 20 3) + v2), .ref (g.2.2 + 21)]) (rest := []) ⟨hx, hb, hml, hown, hts⟩ hK hG hP hS (c_X1_pass l g A L hD hF M 125 ((M 20 3) + v2) 21 r10 e11) (cwV 2 hts gX9_first_X1_pass rfl rfl rfl (by decide +kernel) ⟨Nat.le_of_ble_eq_true rfl, Nat.le_of_ble_eq_true rfl⟩) (tm_recv hK hP (hF 125 (by decide)) (ci := 0) rfl (tm_mkX1 (by decide) _)) rfl hl.1 (lv_room (Nat.le_of_ble_eq_true rfl)) dX9_first_55 ⟨Nat.zero_le _, Nat.zero_le _⟩) hS (fun H locs hP hS => ?_)
      refine lv_if_eq (tgt := 65) hx hb dX9_first_58 (by decide) (fun c12 => ?_) (fun c12 => ?_)
      · rw [if_pos c12] at h
        refine lv_iinc (v := v2 + 1) (lv' := [(2, .int (v2 + 1)), (0, .ref (g.2.2 + 0)), (1, .int w1)]) hx hb dX9_first_65 hl (k := 2) rfl rfl (by decide) rfl (fun ls hl => ?_)
        refine lv_goto (tgt := 29) hx hb dX9_first_68 (by decide) ?_
        exact ih (v2 + 1) r10.2 h _ _ _ hP hS (lv_sub hl [1, 2, 0] rfl)
      · rw [if_neg c12] at h
        refine lv_iload_n hx hb dX9_first_61 rfl (lv_at hl 2 rfl) ?_
        refine lv_iconst (v := 1) hx hb dX9_first_62 (by decide) ?_
        refine lv_iadd hx hb dX9_first_63 ?_
        exact tm_iret C0 (Option.some.inj h) hP hS dX9_first_64
set_option maxHeartbeats 4000000 in
set_option maxRecDepth 100000 in
theorem c_X9_first (l : Launch) (g : tm_G) (A : Nat → Prop) (L : List Nat) (hD : ∀ M, va_D A (tm_ws g L M)) (hF : ∀ o, tm_all o → o ∈ L) (M : tm_M) (p1 : Int32) (R0 : Int32 × tm_M) (h : f_X9_first M p1 = some R0) : Met l yX9_first wsX9_first { frames := 4, cells := 0, slots := 0, locals := 88 } (tm_PC g A L M [.ref (g.2.2 + 0), .int p1]) (tm_QI g A L R0) 0 0 A := by
  refine tm_start (cc := cX9_first) (nL := 3) (ret := (some .int)) (F := tm_all) (plainFor_of_name (by decide)) rfl (Nat.le_of_ble_eq_true rfl) hD hF (fun p e s m args below meth c ls C0 hP hS hl => ?_)
  have hl : lv_has ls 3 [(0, .ref (g.2.2 + 0)), (1, .int p1)] := hl
  have C0 : tm_C p m c cX9_first 3 s args wsX9_first RX9 meth (some .int) g A L tm_all := C0
  obtain ⟨⟨hx, hb, hml, hown, hts⟩, hr, hlk, hK, hD, hG, hF⟩ := id C0
  unfold f_X9_first at h
  refine lv_aload_n hx hb dX9_first_0 rfl (lv_at hl 0 rfl) ?_
  refine lv_iload_n hx hb dX9_first_1 rfl (lv_at hl 1 rfl) ?_
  obtain ⟨r1, e2, h⟩ := tm_bd_some h
  refine tm_backI (r0 := r1) (M0 := M) (fun _ q => q) (tm_callV (As := [.int p1]) (rest := []) ⟨hx, hb, hml, hown, hts⟩ hK hG hP hS (c_X9_unknown l g A L hD hF M p1 r1 e2) (cwV 1 hts gX9_first_X9_unknown rfl rfl rfl (by decide +kernel) ⟨Nat.le_of_ble_eq_true rfl, Nat.le_of_ble_eq_true rfl⟩) (tm_recv hK hP (hF 0 (by decide)) (ci := 8) rfl (tm_mkX9 (by decide) _)) rfl hl.1 (lv_room (Nat.le_of_ble_eq_true rfl)) dX9_first_2 ⟨Nat.zero_le _, Nat.zero_le _⟩) hS (fun H locs hP hS => ?_)
  refine lv_if_eq (tgt := 11) hx hb dX9_first_5 (by decide) (fun c3 => ?_) (fun c3 => ?_)
  · rw [if_pos c3] at h
    refine lv_aload_n hx hb dX9_first_11 rfl (lv_at hl 0 rfl) ?_
    refine tm_get (C := RX9) (T := TX9) (N := 15) (v := .ref (g.2.2 + 125)) hx hb hts nX9_first_X9 hown hK hP (hF 0 (by decide)) (tm_mkX9 (by decide) _) rfl 13 (by decide) (hts _ kX9_first_0) rfl dX9_first_12 ?_
    refine lv_aload_n hx hb dX9_first_15 rfl (lv_at hl 0 rfl) ?_
    refine tm_get (C := RX9) (T := TX9) (N := 15) (v := .ref (g.2.2 + 20)) hx hb hts nX9_first_X9 hown hK hP (hF 0 (by decide)) (tm_mkX9 (by decide) _) rfl 3 (by decide) (hts _ kX9_first_1) rfl dX9_first_16 ?_
    refine tm_get (C := RX8) (T := TX8) (N := 4) (v := .ref (g.2.2 + 22)) hx hb hts nX9_first_X8 hown hK hP (hF 20 (by decide)) (tm_mkX8 (by decide) _) rfl 1 (by decide) (hts _ kX9_first_2) rfl dX9_first_19 ?_
    refine lv_iload_n hx hb dX9_first_22 rfl (lv_at hl 1 rfl) ?_
    obtain ⟨x4, e5, h⟩ := tm_bd_some h
    refine tm_aald hx hb hK hP 3 (hF 22 (by decide)) (tm_mkL (by decide)) rfl e5 dX9_first_23 ?_
    obtain ⟨M8, e7, h⟩ := tm_bd_some h
    refine tm_backV (M0 := M8) (fun _ q => q) (tm_callV (As := [.ref (g.2.2 + x4)]) (rest := []) ⟨hx, hb, hml, hown, hts⟩ hK hG hP hS (c_X1_copy l g A L hD hF M 125 x4 M8 e7) (cwV 1 hts gX9_first_X1_copy rfl rfl rfl (by decide +kernel) ⟨Nat.le_of_ble_eq_true rfl, Nat.le_of_ble_eq_true rfl⟩) (tm_recv hK hP (hF 125 (by decide)) (ci := 0) rfl (tm_mkX1 (by decide) _)) rfl hl.1 (lv_room (Nat.le_of_ble_eq_true rfl)) dX9_first_24 ⟨Nat.zero_le _, Nat.zero_le _⟩) hS (fun H locs hP hS => ?_)
    refine lv_iconst (v := 0) hx hb dX9_first_27 (by decide) ?_
    refine lv_istore_n (lv' := [(2, .int 0), (0, .ref (g.2.2 + 0)), (1, .int p1)]) hx hb dX9_first_28 rfl hl (by decide) rfl (fun ls hl => ?_)
    refine w_X9_first_L29 C0 p1 _ R0 (fun v13 M14 h H locs ls hP hS hl => ?_) 1000 0 M8 h _ _ _ hP hS (lv_sub hl [1, 2, 0] rfl)
    refine lv_iconst (v := (-1)) hx hb dX9_first_71 (by decide) ?_
    exact tm_iret C0 (Option.some.inj h) hP hS dX9_first_72
  · rw [if_neg c3] at h
    refine lv_bipush (v := (-2)) hx hb dX9_first_8 (by decide) ?_
    exact tm_iret C0 (Option.some.inj h) hP hS dX9_first_10
/-! X9_level -/
theorem nX9_level_X9 : ∀ w ∈ wsX90, w ∈ wsX9_level := by decide +kernel
theorem kX9_level_0 : Cond.fieldLink RX9 43 "QuarrelDesk" "now" "LQuarrelDesk$Year;" ∈ wsX9_level := by decide +kernel
theorem nX9_level_X8 : ∀ w ∈ wsX80, w ∈ wsX9_level := by decide +kernel
theorem kX9_level_1 : Cond.fieldLink RX9 89 "QuarrelDesk$Year" "couples" "I" ∈ wsX9_level := by decide +kernel
theorem kX9_level_2 : Cond.fieldLink RX9 118 "QuarrelDesk$Year" "lives" "[LQuarrelDesk$Life;" ∈ wsX9_level := by decide +kernel
theorem kX9_level_3 : Cond.fieldLink RX9 70 "QuarrelDesk" "tried" "LQuarrelDesk$Life;" ∈ wsX9_level := by decide +kernel
theorem nX9_level_X1 : ∀ w ∈ wsX10, w ∈ wsX9_level := by decide +kernel
theorem kX9_level_4 : Cond.fieldLink RX9 201 "QuarrelDesk$Life" "halved" "I" ∈ wsX9_level := by decide +kernel
theorem kX9_level_5 : Cond.fieldLink RX9 204 "QuarrelDesk$Life" "tiffs" "I" ∈ wsX9_level := by decide +kernel
theorem kX9_level_6 : Cond.fieldLink RX9 191 "QuarrelDesk$Life" "claimed" "I" ∈ wsX9_level := by decide +kernel
def f_X9_level_L23 (k : Int32 → Int32 → Int32 → Int32 → tm_M → Option (Int32 × tm_M)) (w1 : Int32) : Nat → Int32 → Int32 → Int32 → Int32 → tm_M → Option (Int32 × tm_M)
  | 0, _, _, _, _, _ => none
  | n + 1, v2, v3, v4, v5, M =>
    if (M 20 2) ≤ v5 then
      k v2 v3 v4 v5 M
    else
      if 6 ≤ v5 then
        k v2 v3 v4 v5 M
      else
        (tm_rdr 22 6 v5).bind fun x6 =>
        (f_X9_tryDays M v5 w1).bind fun M10 =>
        tm_gd (tm_shp x6 = 0) <|
        (some ((M10 125 7) - (M10 x6 7))).bind fun x12 =>
        (some (v2 + (((M10 125 6) - (M10 x6 6)) - x12))).bind fun x13 =>
        (some (v3 + x12)).bind fun x14 =>
        (some (v4 + ((M10 125 9) - (M10 x6 9)))).bind fun x15 =>
        f_X9_level_L23 k w1 n x13 x14 x15 (v5 + 1) M10
def f_X9_level_L127 (k : Int32 → Option (Int32 × tm_M)) (M : tm_M) (w1 : Int32) (w2 : Int32) (w3 : Int32) (w4 : Int32) : Nat → Int32 → Option (Int32 × tm_M)
  | 0, _ => none
  | n + 1, v5 =>
    if 50 < v5 then
      k v5
    else
      if ((w2 * v5) + (w3 * (v5 / 2))) < w4 then
        f_X9_level_L127 k M w1 w2 w3 w4 n (v5 + 1)
      else
        some (v5, M)
def f_X9_level (M : tm_M) (p1 : Int32) : Option (Int32 × tm_M) :=
  (f_X9_outside p1 1 60).bind fun r1 =>
  if r1 = 0 then
    f_X9_level_L23 (fun v16 v17 v18 v19 M20 =>
      f_X9_level_L127 (fun v23 =>
        some ((-1), M20)) M20 p1 v16 v17 v18 1000 0) p1 1000 0 0 0 0 M
  else
    some ((-3), M)
set_option maxHeartbeats 4000000 in
set_option maxRecDepth 100000 in
theorem w_X9_level_L23 {p : Program} {l : Launch} {e : Env} {s : State} {m : MethodId} {args : Array Value} {below : List Frame} {meth : Method} {c : Code} {g : tm_G} {A : Nat → Prop} {L : List Nat} (C0 : tm_C p m c cX9_level 8 s args wsX9_level RX9 meth (some .int) g A L tm_all) (w1 : Int32) (k : Int32 → Int32 → Int32 → Int32 → tm_M → Option (Int32 × tm_M)) (R0 : Int32 × tm_M) (hk : ∀ (v2 : Int32) (v3 : Int32) (v4 : Int32) (v5 : Int32) (M : tm_M), k v2 v3 v4 v5 M = some R0 → ∀ (H : Heap) (locs : List Loc) (ls : Array Slot), va_P g.1 vwCl (tm_ws g L M) H → va_S A s.heap H locs → lv_has ls 8 [(0, .ref (g.2.2 + 0)), (1, .int w1), (2, .int v2), (3, .int v3), (4, .int v4), (5, .int v5)] → W p l e { frames := 6, cells := 0, slots := 0, locals := 132 } s m args below meth c H locs 0 0 (MQ below (tm_QI g A L R0) args s 0 0 A) (F0 m 124 ls [])) : ∀ (n : Nat) (v2 : Int32) (v3 : Int32) (v4 : Int32) (v5 : Int32) (M : tm_M), f_X9_level_L23 k w1 n v2 v3 v4 v5 M = some R0 → ∀ (H : Heap) (locs : List Loc) (ls : Array Slot), va_P g.1 vwCl (tm_ws g L M) H → va_S A s.heap H locs → lv_has ls 8 [(0, .ref (g.2.2 + 0)), (1, .int w1), (2, .int v2), (3, .int v3), (4, .int v4), (5, .int v5)] → W p l e { frames := 6, cells := 0, slots := 0, locals := 132 } s m args below meth c H locs 0 0 (MQ below (tm_QI g A L R0) args s 0 0 A) (F0 m 23 ls []) := by
  obtain ⟨⟨hx, hb, hml, hown, hts⟩, hr, hlk, hK, hD, hG, hF⟩ := id C0
  intro n
  induction n with
  | zero =>
    intro v2 v3 v4 v5 M h
    simp [f_X9_level_L23] at h
  | succ n ih =>
    intro v2 v3 v4 v5 M h H locs ls hP hS hl
    rw [f_X9_level_L23] at h
    refine lv_iload hx hb dX9_level_23 (lv_at hl 5 rfl) ?_
    refine lv_aload_n hx hb dX9_level_25 rfl (lv_at hl 0 rfl) ?_
    refine tm_get (C := RX9) (T := TX9) (N := 15) (v := .ref (g.2.2 + 20)) hx hb hts nX9_level_X9 hown hK hP (hF 0 (by decide)) (tm_mkX9 (by decide) _) rfl 3 (by decide) (hts _ kX9_level_0) rfl dX9_level_26 ?_
    refine tm_get (C := RX8) (T := TX8) (N := 4) (v := .int (M 20 2)) hx hb hts nX9_level_X8 hown hK hP (hF 20 (by decide)) (tm_mkX8 (by decide) _) rfl 2 (by decide) (hts _ kX9_level_1) rfl dX9_level_29 ?_
    refine lv_icmp_ge (tgt := 124) hx hb dX9_level_32 (by decide) (fun c4 => ?_) (fun c4 => ?_)
    · rw [if_pos c4] at h
      exact hk v2 v3 v4 v5 M h _ _ _ hP hS (lv_sub hl [0, 1, 2, 3, 4, 5] rfl)
    · rw [if_neg c4] at h
      refine lv_iload hx hb dX9_level_35 (lv_at hl 5 rfl) ?_
      refine lv_bipush (v := 6) hx hb dX9_level_37 (by decide) ?_
      refine lv_icmp_ge (tgt := 124) hx hb dX9_level_39 (by decide) (fun c5 => ?_) (fun c5 => ?_)
      · rw [if_pos c5] at h
        exact hk v2 v3 v4 v5 M h _ _ _ hP hS (lv_sub hl [0, 1, 2, 3, 4, 5] rfl)
      · rw [if_neg c5] at h
        refine lv_aload_n hx hb dX9_level_42 rfl (lv_at hl 0 rfl) ?_
        refine tm_get (C := RX9) (T := TX9) (N := 15) (v := .ref (g.2.2 + 20)) hx hb hts nX9_level_X9 hown hK hP (hF 0 (by decide)) (tm_mkX9 (by decide) _) rfl 3 (by decide) (hts _ kX9_level_0) rfl dX9_level_43 ?_
        refine tm_get (C := RX8) (T := TX8) (N := 4) (v := .ref (g.2.2 + 22)) hx hb hts nX9_level_X8 hown hK hP (hF 20 (by decide)) (tm_mkX8 (by decide) _) rfl 1 (by decide) (hts _ kX9_level_2) rfl dX9_level_46 ?_
        refine lv_iload hx hb dX9_level_49 (lv_at hl 5 rfl) ?_
        obtain ⟨x6, e7, h⟩ := tm_bd_some h
        refine tm_aald hx hb hK hP 3 (hF 22 (by decide)) (tm_mkL (by decide)) rfl e7 dX9_level_51 ?_
        refine lv_astore (lv' := [(6, .ref (g.2.2 + x6)), (0, .ref (g.2.2 + 0)), (1, .int w1), (2, .int v2), (3, .int v3), (4, .int v4), (5, .int v5)]) hx hb dX9_level_52 hl (by decide) rfl (fun ls hl => ?_)
        refine lv_aload_n hx hb dX9_level_54 rfl (lv_at hl 1 rfl) ?_
        refine lv_iload hx hb dX9_level_55 (lv_at hl 6 rfl) ?_
        refine lv_iload_n hx hb dX9_level_57 rfl (lv_at hl 2 rfl) ?_
        obtain ⟨M10, e9, h⟩ := tm_bd_some h
        refine tm_backV (M0 := M10) (fun _ q => q) (tm_callV (As := [.int v5, .int w1]) (rest := []) ⟨hx, hb, hml, hown, hts⟩ hK hG hP hS (c_X9_tryDays l g A L hD hF M v5 w1 M10 e9) (cwV 2 hts gX9_level_X9_tryDays rfl rfl rfl (by decide +kernel) ⟨Nat.le_of_ble_eq_true rfl, Nat.le_of_ble_eq_true rfl⟩) (tm_recv hK hP (hF 0 (by decide)) (ci := 8) rfl (tm_mkX9 (by decide) _)) rfl hl.1 (lv_room (Nat.le_of_ble_eq_true rfl)) dX9_level_58 ⟨Nat.zero_le _, Nat.zero_le _⟩) hS (fun H locs hP hS => ?_)
        refine lv_aload_n hx hb dX9_level_61 rfl (lv_at hl 1 rfl) ?_
        refine tm_get (C := RX9) (T := TX9) (N := 15) (v := .ref (g.2.2 + 125)) hx hb hts nX9_level_X9 hown hK hP (hF 0 (by decide)) (tm_mkX9 (by decide) _) rfl 13 (by decide) (hts _ kX9_level_3) rfl dX9_level_62 ?_
        refine tm_get (C := RX1) (T := TX1) (N := 12) (v := .int (M10 125 7)) hx hb hts nX9_level_X1 hown hK hP (hF 125 (by decide)) (tm_mkX1 (by decide) _) rfl 7 (by decide) (hts _ kX9_level_4) rfl dX9_level_65 ?_
        refine lv_aload hx hb dX9_level_68 (lv_at hl 0 rfl) ?_
        obtain ⟨g11, h⟩ := tm_gd_some h
        refine tm_get (C := RX1) (T := TX1) (N := 12) (v := .int (M10 x6 7)) hx hb hts nX9_level_X1 hown hK hP (hF _ (tm_lt g11)) (tm_mkX1 g11 _) rfl 7 (by decide) (hts _ kX9_level_4) rfl dX9_level_70 ?_
        refine lv_isub hx hb dX9_level_73 ?_
        refine tm_nam h (fun x12 h => ?_)
        refine lv_istore (lv' := [(7, .int x12), (6, .ref (g.2.2 + x6)), (0, .ref (g.2.2 + 0)), (1, .int w1), (2, .int v2), (3, .int v3), (4, .int v4), (5, .int v5)]) hx hb dX9_level_74 hl (by decide) rfl (fun ls hl => ?_)
        refine lv_iload_n hx hb dX9_level_76 rfl (lv_at hl 4 rfl) ?_
        refine lv_aload_n hx hb dX9_level_77 rfl (lv_at hl 2 rfl) ?_
        refine tm_get (C := RX9) (T := TX9) (N := 15) (v := .ref (g.2.2 + 125)) hx hb hts nX9_level_X9 hown hK hP (hF 0 (by decide)) (tm_mkX9 (by decide) _) rfl 13 (by decide) (hts _ kX9_level_3) rfl dX9_level_78 ?_
        refine tm_get (C := RX1) (T := TX1) (N := 12) (v := .int (M10 125 6)) hx hb hts nX9_level_X1 hown hK hP (hF 125 (by decide)) (tm_mkX1 (by decide) _) rfl 6 (by decide) (hts _ kX9_level_5) rfl dX9_level_81 ?_
        refine lv_aload hx hb dX9_level_84 (lv_at hl 1 rfl) ?_
        refine tm_get (C := RX1) (T := TX1) (N := 12) (v := .int (M10 x6 6)) hx hb hts nX9_level_X1 hown hK hP (hF _ (tm_lt g11)) (tm_mkX1 g11 _) rfl 6 (by decide) (hts _ kX9_level_5) rfl dX9_level_86 ?_
        refine lv_isub hx hb dX9_level_89 ?_
        refine lv_iload hx hb dX9_level_90 (lv_at hl 0 rfl) ?_
        refine lv_isub hx hb dX9_level_92 ?_
        refine lv_iadd hx hb dX9_level_93 ?_
        refine tm_nam h (fun x13 h => ?_)
        refine lv_istore_n (lv' := [(2, .int x13), (7, .int x12), (6, .ref (g.2.2 + x6)), (0, .ref (g.2.2 + 0)), (1, .int w1), (3, .int v3), (4, .int v4), (5, .int v5)]) hx hb dX9_level_94 rfl hl (by decide) rfl (fun ls hl => ?_)
        refine lv_iload_n hx hb dX9_level_95 rfl (lv_at hl 5 rfl) ?_
        refine lv_iload hx hb dX9_level_96 (lv_at hl 1 rfl) ?_
        refine lv_iadd hx hb dX9_level_98 ?_
        refine tm_nam h (fun x14 h => ?_)
        refine lv_istore_n (lv' := [(3, .int x14), (2, .int x13), (7, .int x12), (6, .ref (g.2.2 + x6)), (0, .ref (g.2.2 + 0)), (1, .int w1), (4, .int v4), (5, .int v5)]) hx hb dX9_level_99 rfl hl (by decide) rfl (fun ls hl => ?_)
        refine lv_iload hx hb dX9_level_100 (lv_at hl 6 rfl) ?_
        refine lv_aload_n hx hb dX9_level_102 rfl (lv_at hl 4 rfl) ?_
        refine tm_get (C := RX9) (T := TX9) (N := 15) (v := .ref (g.2.2 + 125)) hx hb hts nX9_level_X9 hown hK hP (hF 0 (by decide)) (tm_mkX9 (by decide) _) rfl 13 (by decide) (hts _ kX9_level_3) rfl dX9_level_103 ?_
        refine tm_get (C := RX1) (T := TX1) (N := 12) (v := .int (M10 125 9)) hx hb hts nX9_level_X1 hown hK hP (hF 125 (by decide)) (tm_mkX1 (by decide) _) rfl 9 (by decide) (hts _ kX9_level_6) rfl dX9_level_106 ?_
        refine lv_aload hx hb dX9_level_109 (lv_at hl 3 rfl) ?_
        refine tm_get (C := RX1) (T := TX1) (N := 12) (v := .int (M10 x6 9)) hx hb hts nX9_level_X1 hown hK hP (hF _ (tm_lt g11)) (tm_mkX1 g11 _) rfl 9 (by decide) (hts _ kX9_level_6) rfl dX9_level_111 ?_
        refine lv_isub hx hb dX9_level_114 ?_
        refine lv_iadd hx hb dX9_level_115 ?_
        refine tm_nam h (fun x15 h => ?_)
        refine lv_istore (lv' := [(4, .int x15), (3, .int x14), (2, .int x13), (7, .int x12), (6, .ref (g.2.2 + x6)), (0, .ref (g.2.2 + 0)), (1, .int w1), (5, .int v5)]) hx hb dX9_level_116 hl (by decide) rfl (fun ls hl => ?_)
        refine lv_iinc (v := v5 + 1) (lv' := [(5, .int (v5 + 1)), (4, .int x15), (3, .int x14), (2, .int x13), (7, .int x12), (6, .ref (g.2.2 + x6)), (0, .ref (g.2.2 + 0)), (1, .int w1)]) hx hb dX9_level_118 hl (k := 7) rfl rfl (by decide) rfl (fun ls hl => ?_)
        refine lv_goto (tgt := 23) hx hb dX9_level_121 (by decide) ?_
        exact ih x13 x14 x15 (v5 + 1) M10 h _ _ _ hP hS (lv_sub hl [6, 7, 3, 2, 1, 0] rfl)
set_option maxHeartbeats 4000000 in
set_option maxRecDepth 100000 in
theorem w_X9_level_L127 {p : Program} {l : Launch} {e : Env} {s : State} {m : MethodId} {args : Array Value} {below : List Frame} {meth : Method} {c : Code} {g : tm_G} {A : Nat → Prop} {L : List Nat} (C0 : tm_C p m c cX9_level 8 s args wsX9_level RX9 meth (some .int) g A L tm_all) (M : tm_M) (w1 : Int32) (w2 : Int32) (w3 : Int32) (w4 : Int32) (k : Int32 → Option (Int32 × tm_M)) (R0 : Int32 × tm_M) (hk : ∀ (v5 : Int32), k v5 = some R0 → ∀ (H : Heap) (locs : List Loc) (ls : Array Slot), va_P g.1 vwCl (tm_ws g L M) H → va_S A s.heap H locs → lv_has ls 8 [(0, .ref (g.2.2 + 0)), (1, .int w1), (2, .int w2), (3, .int w3), (4, .int w4), (5, .int v5)] → W p l e { frames := 6, cells := 0, slots := 0, locals := 132 } s m args below meth c H locs 0 0 (MQ below (tm_QI g A L R0) args s 0 0 A) (F0 m 159 ls [])) : ∀ (n : Nat) (v5 : Int32), f_X9_level_L127 k M w1 w2 w3 w4 n v5 = some R0 → ∀ (H : Heap) (locs : List Loc) (ls : Array Slot), va_P g.1 vwCl (tm_ws g L M) H → va_S A s.heap H locs → lv_has ls 8 [(0, .ref (g.2.2 + 0)), (1, .int w1), (2, .int w2), (3, .int w3), (4, .int w4), (5, .int v5)] → W p l e { frames := 6, cells := 0, slots := 0, locals := 132 } s m args below meth c H locs 0 0 (MQ below (tm_QI g A L R0) args s 0 0 A) (F0 m 127 ls []) := by
  obtain ⟨⟨hx, hb, hml, hown, hts⟩, hr, hlk, hK, hD, hG, hF⟩ := id C0
  intro n
  induction n with
  | zero =>
    intro v5 h
    simp [f_X9_level_L127] at h
  | succ n ih =>
    intro v5 h H locs ls hP hS hl
    rw [f_X9_level_L127] at h
    refine lv_iload hx hb dX9_level_127 (lv_at hl 5 rfl) ?_
    refine lv_bipush (v := 50) hx hb dX9_level_129 (by decide) ?_
    refine lv_icmp_gt (tgt := 159) hx hb dX9_level_131 (by decide) (fun c21 => ?_) (fun c21 => ?_)
    · rw [if_pos c21] at h
      exact hk v5 h _ _ _ hP hS (lv_sub hl [0, 1, 2, 3, 4, 5] rfl)
    · rw [if_neg c21] at h
      refine lv_iload_n hx hb dX9_level_134 rfl (lv_at hl 2 rfl) ?_
      refine lv_iload hx hb dX9_level_135 (lv_at hl 5 rfl) ?_
      refine lv_imul hx hb dX9_level_137 ?_
      refine lv_iload_n hx hb dX9_level_138 rfl (lv_at hl 3 rfl) ?_
      refine lv_iload hx hb dX9_level_139 (lv_at hl 5 rfl) ?_
      refine lv_iconst (v := 2) hx hb dX9_level_141 (by decide) ?_
      refine lv_idiv hx hb dX9_level_142 (by decide) ?_
      refine lv_imul hx hb dX9_level_143 ?_
      refine lv_iadd hx hb dX9_level_144 ?_
      refine lv_iload hx hb dX9_level_145 (lv_at hl 4 rfl) ?_
      refine lv_icmp_lt (tgt := 153) hx hb dX9_level_147 (by decide) (fun c22 => ?_) (fun c22 => ?_)
      · rw [if_pos c22] at h
        refine lv_iinc (v := v5 + 1) (lv' := [(5, .int (v5 + 1)), (0, .ref (g.2.2 + 0)), (1, .int w1), (2, .int w2), (3, .int w3), (4, .int w4)]) hx hb dX9_level_153 hl (k := 5) rfl rfl (by decide) rfl (fun ls hl => ?_)
        refine lv_goto (tgt := 127) hx hb dX9_level_156 (by decide) ?_
        exact ih (v5 + 1) h _ _ _ hP hS (lv_sub hl [1, 2, 3, 4, 5, 0] rfl)
      · rw [if_neg c22] at h
        refine lv_iload hx hb dX9_level_150 (lv_at hl 5 rfl) ?_
        exact tm_iret C0 (Option.some.inj h) hP hS dX9_level_152
set_option maxHeartbeats 4000000 in
set_option maxRecDepth 100000 in
theorem c_X9_level (l : Launch) (g : tm_G) (A : Nat → Prop) (L : List Nat) (hD : ∀ M, va_D A (tm_ws g L M)) (hF : ∀ o, tm_all o → o ∈ L) (M : tm_M) (p1 : Int32) (R0 : Int32 × tm_M) (h : f_X9_level M p1 = some R0) : Met l yX9_level wsX9_level { frames := 6, cells := 0, slots := 0, locals := 132 } (tm_PC g A L M [.ref (g.2.2 + 0), .int p1]) (tm_QI g A L R0) 0 0 A := by
  refine tm_start (cc := cX9_level) (nL := 8) (ret := (some .int)) (F := tm_all) (plainFor_of_name (by decide)) rfl (Nat.le_of_ble_eq_true rfl) hD hF (fun p e s m args below meth c ls C0 hP hS hl => ?_)
  have hl : lv_has ls 8 [(0, .ref (g.2.2 + 0)), (1, .int p1)] := hl
  have C0 : tm_C p m c cX9_level 8 s args wsX9_level RX9 meth (some .int) g A L tm_all := C0
  obtain ⟨⟨hx, hb, hml, hown, hts⟩, hr, hlk, hK, hD, hG, hF⟩ := id C0
  unfold f_X9_level at h
  refine lv_iload_n hx hb dX9_level_0 rfl (lv_at hl 1 rfl) ?_
  refine lv_iconst (v := 1) hx hb dX9_level_1 (by decide) ?_
  refine lv_bipush (v := 60) hx hb dX9_level_2 (by decide) ?_
  obtain ⟨r1, e2, h⟩ := tm_bd_some h
  refine tm_backI (r0 := r1) (M0 := M) (fun _ q => q) (tm_callS (As := [.int p1, .int 1, .int 60]) (rest := []) ⟨hx, hb, hml, hown, hts⟩ hK hG hP hS (c_X9_outside l g A L hD hF M p1 1 60 r1 e2) (va_cwS 3 hts gX9_level_X9_outside rfl rfl rfl (by decide +kernel) ⟨Nat.le_of_ble_eq_true rfl, Nat.le_of_ble_eq_true rfl⟩) rfl hl.1 (lv_room (Nat.le_of_ble_eq_true rfl)) dX9_level_4 ⟨Nat.zero_le _, Nat.zero_le _⟩) hS (fun H locs hP hS => ?_)
  refine lv_if_eq (tgt := 13) hx hb dX9_level_7 (by decide) (fun c3 => ?_) (fun c3 => ?_)
  · rw [if_pos c3] at h
    refine lv_iconst (v := 0) hx hb dX9_level_13 (by decide) ?_
    refine lv_istore_n (lv' := [(2, .int 0), (0, .ref (g.2.2 + 0)), (1, .int p1)]) hx hb dX9_level_14 rfl hl (by decide) rfl (fun ls hl => ?_)
    refine lv_iconst (v := 0) hx hb dX9_level_15 (by decide) ?_
    refine lv_istore_n (lv' := [(3, .int 0), (2, .int 0), (0, .ref (g.2.2 + 0)), (1, .int p1)]) hx hb dX9_level_16 rfl hl (by decide) rfl (fun ls hl => ?_)
    refine lv_iconst (v := 0) hx hb dX9_level_17 (by decide) ?_
    refine lv_istore (lv' := [(4, .int 0), (3, .int 0), (2, .int 0), (0, .ref (g.2.2 + 0)), (1, .int p1)]) hx hb dX9_level_18 hl (by decide) rfl (fun ls hl => ?_)
    refine lv_iconst (v := 0) hx hb dX9_level_20 (by decide) ?_
    refine lv_istore (lv' := [(5, .int 0), (4, .int 0), (3, .int 0), (2, .int 0), (0, .ref (g.2.2 + 0)), (1, .int p1)]) hx hb dX9_level_21 hl (by decide) rfl (fun ls hl => ?_)
    refine w_X9_level_L23 C0 p1 _ R0 (fun v16 v17 v18 v19 M20 h H locs ls hP hS hl => ?_) 1000 0 0 0 0 M h _ _ _ hP hS (lv_sub hl [4, 5, 3, 2, 1, 0] rfl)
    refine lv_iconst (v := 0) hx hb dX9_level_124 (by decide) ?_
    refine lv_istore (lv' := [(5, .int 0), (0, .ref (g.2.2 + 0)), (1, .int p1), (2, .int v16), (3, .int v17), (4, .int v18)]) hx hb dX9_level_125 hl (by decide) rfl (fun ls hl => ?_)
    refine w_X9_level_L127 C0 M20 p1 v16 v17 v18 _ R0 (fun v23 h H locs ls hP hS hl => ?_) 1000 0 h _ _ _ hP hS (lv_sub hl [1, 2, 3, 4, 5, 0] rfl)
    refine lv_iconst (v := (-1)) hx hb dX9_level_159 (by decide) ?_
    exact tm_iret C0 (Option.some.inj h) hP hS dX9_level_160
  · rw [if_neg c3] at h
    refine lv_bipush (v := (-3)) hx hb dX9_level_10 (by decide) ?_
    exact tm_iret C0 (Option.some.inj h) hP hS dX9_level_12
/-! X9_claimedIfKissed -/
theorem nX9_claimedIfKissed_X9 : ∀ w ∈ wsX90, w ∈ wsX9_claimedIfKissed := by decide +kernel
theorem kX9_claimedIfKissed_0 : Cond.fieldLink RX9 70 "QuarrelDesk" "tried" "LQuarrelDesk$Life;" ∈ wsX9_claimedIfKissed := by decide +kernel
theorem kX9_claimedIfKissed_1 : Cond.fieldLink RX9 43 "QuarrelDesk" "now" "LQuarrelDesk$Year;" ∈ wsX9_claimedIfKissed := by decide +kernel
theorem nX9_claimedIfKissed_X8 : ∀ w ∈ wsX80, w ∈ wsX9_claimedIfKissed := by decide +kernel
theorem kX9_claimedIfKissed_2 : Cond.fieldLink RX9 118 "QuarrelDesk$Year" "lives" "[LQuarrelDesk$Life;" ∈ wsX9_claimedIfKissed := by decide +kernel
theorem kX9_claimedIfKissed_3 : Cond.fieldLink RX9 133 "QuarrelDesk$Year" "day" "I" ∈ wsX9_claimedIfKissed := by decide +kernel
theorem kX9_claimedIfKissed_4 : Cond.fieldLink RX9 140 "QuarrelDesk$Year" "terms" "LQuarrelDesk$Terms;" ∈ wsX9_claimedIfKissed := by decide +kernel
theorem nX9_claimedIfKissed_X1 : ∀ w ∈ wsX10, w ∈ wsX9_claimedIfKissed := by decide +kernel
theorem kX9_claimedIfKissed_5 : Cond.fieldLink RX9 191 "QuarrelDesk$Life" "claimed" "I" ∈ wsX9_claimedIfKissed := by decide +kernel
def f_X9_claimedIfKissed_L19 (k : Int32 → tm_M → Option (Int32 × tm_M)) (w1 : Int32) (w2 : Int32) (w3 : Int32) : Nat → Int32 → tm_M → Option (Int32 × tm_M)
  | 0, _, _ => none
  | n + 1, v4, M =>
    if w2 ≤ v4 then
      k v4 M
    else
      if v4 = w3 then
        (f_X1_beKissed M 125).bind fun M12 =>
        (f_X1_pass M12 125 ((M12 20 3) + v4) 21).bind fun r13 =>
        f_X9_claimedIfKissed_L19 k w1 w2 w3 n (v4 + 1) r13.2
      else
        (f_X1_pass M 125 ((M 20 3) + v4) 21).bind fun r8 =>
        f_X9_claimedIfKissed_L19 k w1 w2 w3 n (v4 + 1) r8.2
def f_X9_claimedIfKissed (M : tm_M) (p1 : Int32) (p2 : Int32) (p3 : Int32) : Option (Int32 × tm_M) :=
  (tm_rdr 22 6 p1).bind fun x1 =>
  (f_X1_copy M 125 x1).bind fun M5 =>
  f_X9_claimedIfKissed_L19 (fun v15 M16 =>
    some (M16 125 9, M16)) p1 p2 p3 1000 0 M5
set_option maxHeartbeats 4000000 in
set_option maxRecDepth 100000 in
theorem w_X9_claimedIfKissed_L19 {p : Program} {l : Launch} {e : Env} {s : State} {m : MethodId} {args : Array Value} {below : List Frame} {meth : Method} {c : Code} {g : tm_G} {A : Nat → Prop} {L : List Nat} (C0 : tm_C p m c cX9_claimedIfKissed 5 s args wsX9_claimedIfKissed RX9 meth (some .int) g A L tm_all) (w1 : Int32) (w2 : Int32) (w3 : Int32) (k : Int32 → tm_M → Option (Int32 × tm_M)) (R0 : Int32 × tm_M) (hk : ∀ (v4 : Int32) (M : tm_M), k v4 M = some R0 → ∀ (H : Heap) (locs : List Loc) (ls : Array Slot), va_P g.1 vwCl (tm_ws g L M) H → va_S A s.heap H locs → lv_has ls 5 [(0, .ref (g.2.2 + 0)), (1, .int w1), (2, .int w2), (3, .int w3), (4, .int v4)] → W p l e { frames := 4, cells := 0, slots := 0, locals := 88 } s m args below meth c H locs 0 0 (MQ below (tm_QI g A L R0) args s 0 0 A) (F0 m 69 ls [])) : ∀ (n : Nat) (v4 : Int32) (M : tm_M), f_X9_claimedIfKissed_L19 k w1 w2 w3 n v4 M = some R0 → ∀ (H : Heap) (locs : List Loc) (ls : Array Slot), va_P g.1 vwCl (tm_ws g L M) H → va_S A s.heap H locs → lv_has ls 5 [(0, .ref (g.2.2 + 0)), (1, .int w1), (2, .int w2), (3, .int w3), (4, .int v4)] → W p l e { frames := 4, cells := 0, slots := 0, locals := 88 } s m args below meth c H locs 0 0 (MQ below (tm_QI g A L R0) args s 0 0 A) (F0 m 19 ls []) := by
  obtain ⟨⟨hx, hb, hml, hown, hts⟩, hr, hlk, hK, hD, hG, hF⟩ := id C0
  intro n
  induction n with
  | zero =>
    intro v4 M h
    simp [f_X9_claimedIfKissed_L19] at h
  | succ n ih =>
    intro v4 M h H locs ls hP hS hl
    rw [f_X9_claimedIfKissed_L19] at h
    refine lv_iload hx hb dX9_claimedIfKissed_19 (lv_at hl 4 rfl) ?_
    refine lv_iload_n hx hb dX9_claimedIfKissed_21 rfl (lv_at hl 2 rfl) ?_
    refine lv_icmp_ge (tgt := 69) hx hb dX9_claimedIfKissed_22 (by decide) (fun c6 => ?_) (fun c6 => ?_)
    · rw [if_pos c6] at h
      exact hk v4 M h _ _ _ hP hS (lv_sub hl [0, 1, 2, 3, 4] rfl)
    · rw [if_neg c6] at h
      refine lv_iload hx hb dX9_claimedIfKissed_25 (lv_at hl 4 rfl) ?_
      refine lv_iload_n hx hb dX9_claimedIfKissed_27 rfl (lv_at hl 3 rfl) ?_
      refine lv_icmp_ne (tgt := 38) hx hb dX9_claimedIfKissed_28 (by decide) (fun c7 => ?_) (fun c7 => ?_)
      · rw [if_neg c7] at h
        refine lv_aload_n hx hb dX9_claimedIfKissed_38 rfl (lv_at hl 0 rfl) ?_
        refine tm_get (C := RX9) (T := TX9) (N := 15) (v := .ref (g.2.2 + 125)) hx hb hts nX9_claimedIfKissed_X9 hown hK hP (hF 0 (by decide)) (tm_mkX9 (by decide) _) rfl 13 (by decide) (hts _ kX9_claimedIfKissed_0) rfl dX9_claimedIfKissed_39 ?_
        refine lv_aload_n hx hb dX9_claimedIfKissed_42 rfl (lv_at hl 0 rfl) ?_
        refine tm_get (C := RX9) (T := TX9) (N := 15) (v := .ref (g.2.2 + 20)) hx hb hts nX9_claimedIfKissed_X9 hown hK hP (hF 0 (by decide)) (tm_mkX9 (by decide) _) rfl 3 (by decide) (hts _ kX9_claimedIfKissed_1) rfl dX9_claimedIfKissed_43 ?_
        refine tm_get (C := RX8) (T := TX8) (N := 4) (v := .int (M 20 3)) hx hb hts nX9_claimedIfKissed_X8 hown hK hP (hF 20 (by decide)) (tm_mkX8 (by decide) _) rfl 3 (by decide) (hts _ kX9_claimedIfKissed_3) rfl dX9_claimedIfKissed_46 ?_
        refine lv_iload hx hb dX9_claimedIfKissed_49 (lv_at hl 4 rfl) ?_
        refine lv_iadd hx hb dX9_claimedIfKissed_51 ?_
        refine lv_aload_n hx hb dX9_claimedIfKissed_52 rfl (lv_at hl 0 rfl) ?_
        refine tm_get (C := RX9) (T := TX9) (N := 15) (v := .ref (g.2.2 + 20)) hx hb hts nX9_claimedIfKissed_X9 hown hK hP (hF 0 (by decide)) (tm_mkX9 (by decide) _) rfl 3 (by decide) (hts _ kX9_claimedIfKissed_1) rfl dX9_claimedIfKissed_53 ?_
        refine tm_get (C := RX8) (T := TX8) (N := 4) (v := .ref (g.2.2 + 21)) hx hb hts nX9_claimedIfKissed_X8 hown hK hP (hF 20 (by decide)) (tm_mkX8 (by decide) _) rfl 0 (by decide) (hts _ kX9_claimedIfKissed_4) rfl dX9_claimedIfKissed_56 ?_
        obtain ⟨r8, e9, h⟩ := tm_bd_some h
        refine tm_backI (r0 := r8.1) (M0 := r8.2) (fun _ q => q) (tm_callV (As := [.int ((M 20 3) + v4), .ref (g.2.2 + 21)]) (rest := []) ⟨hx, hb, hml, hown, hts⟩ hK hG hP hS (c_X1_pass l g A L hD hF M 125 ((M 20 3) + v4) 21 r8 e9) (cwV 2 hts gX9_claimedIfKissed_X1_pass rfl rfl rfl (by decide +kernel) ⟨Nat.le_of_ble_eq_true rfl, Nat.le_of_ble_eq_true rfl⟩) (tm_recv hK hP (hF 125 (by decide)) (ci := 0) rfl (tm_mkX1 (by decide) _)) rfl hl.1 (lv_room (Nat.le_of_ble_eq_true rfl)) dX9_claimedIfKissed_59 ⟨Nat.zero_le _, Nat.zero_le _⟩) hS (fun H locs hP hS => ?_)
        refine lv_pop hx hb dX9_claimedIfKissed_62 rfl ?_
        refine lv_iinc (v := v4 + 1) (lv' := [(4, .int (v4 + 1)), (0, .ref (g.2.2 + 0)), (1, .int w1), (2, .int w2), (3, .int w3)]) hx hb dX9_claimedIfKissed_63 hl (k := 4) rfl rfl (by decide) rfl (fun ls hl => ?_)
        refine lv_goto (tgt := 19) hx hb dX9_claimedIfKissed_66 (by decide) ?_
        exact ih (v4 + 1) r8.2 h _ _ _ hP hS (lv_sub hl [1, 2, 3, 4, 0] rfl)
      · rw [if_pos c7] at h
        refine lv_aload_n hx hb dX9_claimedIfKissed_31 rfl (lv_at hl 0 rfl) ?_
        refine tm_get (C := RX9) (T := TX9) (N := 15) (v := .ref (g.2.2 + 125)) hx hb hts nX9_claimedIfKissed_X9 hown hK hP (hF 0 (by decide)) (tm_mkX9 (by decide) _) rfl 13 (by decide) (hts _ kX9_claimedIfKissed_0) rfl dX9_claimedIfKissed_32 ?_
        obtain ⟨M12, e11, h⟩ := tm_bd_some h
        refine tm_backV (M0 := M12) (fun _ q => q) (tm_callV (As := []) (rest := []) ⟨hx, hb, hml, hown, hts⟩ hK hG hP hS (c_X1_beKissed l g A L hD hF M 125 M12 e11) (cwV 0 hts gX9_claimedIfKissed_X1_beKissed rfl rfl rfl (by decide +kernel) ⟨Nat.le_of_ble_eq_true rfl, Nat.le_of_ble_eq_true rfl⟩) (tm_recv hK hP (hF 125 (by decide)) (ci := 0) rfl (tm_mkX1 (by decide) _)) rfl hl.1 (lv_room (Nat.le_of_ble_eq_true rfl)) dX9_claimedIfKissed_35 ⟨Nat.zero_le _, Nat.zero_le _⟩) hS (fun H locs hP hS => ?_)
        refine lv_aload_n hx hb dX9_claimedIfKissed_38 rfl (lv_at hl 0 rfl) ?_
        refine tm_get (C := RX9) (T := TX9) (N := 15) (v := .ref (g.2.2 + 125)) hx hb hts nX9_claimedIfKissed_X9 hown hK hP (hF 0 (by decide)) (tm_mkX9 (by decide) _) rfl 13 (by decide) (hts _ kX9_claimedIfKissed_0) rfl dX9_claimedIfKissed_39 ?_
        refine lv_aload_n hx hb dX9_claimedIfKissed_42 rfl (lv_at hl 0 rfl) ?_
        refine tm_get (C := RX9) (T := TX9) (N := 15) (v := .ref (g.2.2 + 20)) hx hb hts nX9_claimedIfKissed_X9 hown hK hP (hF 0 (by decide)) (tm_mkX9 (by decide) _) rfl 3 (by decide) (hts _ kX9_claimedIfKissed_1) rfl dX9_claimedIfKissed_43 ?_
        refine tm_get (C := RX8) (T := TX8) (N := 4) (v := .int (M12 20 3)) hx hb hts nX9_claimedIfKissed_X8 hown hK hP (hF 20 (by decide)) (tm_mkX8 (by decide) _) rfl 3 (by decide) (hts _ kX9_claimedIfKissed_3) rfl dX9_claimedIfKissed_46 ?_
        refine lv_iload hx hb dX9_claimedIfKissed_49 (lv_at hl 4 rfl) ?_
        refine lv_iadd hx hb dX9_claimedIfKissed_51 ?_
        refine lv_aload_n hx hb dX9_claimedIfKissed_52 rfl (lv_at hl 0 rfl) ?_
        refine tm_get (C := RX9) (T := TX9) (N := 15) (v := .ref (g.2.2 + 20)) hx hb hts nX9_claimedIfKissed_X9 hown hK hP (hF 0 (by decide)) (tm_mkX9 (by decide) _) rfl 3 (by decide) (hts _ kX9_claimedIfKissed_1) rfl dX9_claimedIfKissed_53 ?_
        refine tm_get (C := RX8) (T := TX8) (N := 4) (v := .ref (g.2.2 + 21)) hx hb hts nX9_claimedIfKissed_X8 hown hK hP (hF 20 (by decide)) (tm_mkX8 (by decide) _) rfl 0 (by decide) (hts _ kX9_claimedIfKissed_4) rfl dX9_claimedIfKissed_56 ?_
        obtain ⟨r13, e14, h⟩ := tm_bd_some h
        refine tm_backI (r0 := r13.1) (M0 := r13.2) (fun _ q => q) (tm_callV (As := [.int ((M12 20 3) + v4), .ref (g.2.2 + 21)]) (rest := []) ⟨hx, hb, hml, hown, hts⟩ hK hG hP hS (c_X1_pass l g A L hD hF M12 125 ((M12 20 3) + v4) 21 r13 e14) (cwV 2 hts gX9_claimedIfKissed_X1_pass rfl rfl rfl (by decide +kernel) ⟨Nat.le_of_ble_eq_true rfl, Nat.le_of_ble_eq_true rfl⟩) (tm_recv hK hP (hF 125 (by decide)) (ci := 0) rfl (tm_mkX1 (by decide) _)) rfl hl.1 (lv_room (Nat.le_of_ble_eq_true rfl)) dX9_claimedIfKissed_59 ⟨Nat.zero_le _, Nat.zero_le _⟩) hS (fun H locs hP hS => ?_)
        refine lv_pop hx hb dX9_claimedIfKissed_62 rfl ?_
        refine lv_iinc (v := v4 + 1) (lv' := [(4, .int (v4 + 1)), (0, .ref (g.2.2 + 0)), (1, .int w1), (2, .int w2), (3, .int w3)]) hx hb dX9_claimedIfKissed_63 hl (k := 4) rfl rfl (by decide) rfl (fun ls hl => ?_)
        refine lv_goto (tgt := 19) hx hb dX9_claimedIfKissed_66 (by decide) ?_
        exact ih (v4 + 1) r13.2 h _ _ _ hP hS (lv_sub hl [1, 2, 3, 4, 0] rfl)
set_option maxHeartbeats 4000000 in
set_option maxRecDepth 100000 in
theorem c_X9_claimedIfKissed (l : Launch) (g : tm_G) (A : Nat → Prop) (L : List Nat) (hD : ∀ M, va_D A (tm_ws g L M)) (hF : ∀ o, tm_all o → o ∈ L) (M : tm_M) (p1 : Int32) (p2 : Int32) (p3 : Int32) (R0 : Int32 × tm_M) (h : f_X9_claimedIfKissed M p1 p2 p3 = some R0) : Met l yX9_claimedIfKissed wsX9_claimedIfKissed { frames := 4, cells := 0, slots := 0, locals := 88 } (tm_PC g A L M [.ref (g.2.2 + 0), .int p1, .int p2, .int p3]) (tm_QI g A L R0) 0 0 A := by
  refine tm_start (cc := cX9_claimedIfKissed) (nL := 5) (ret := (some .int)) (F := tm_all) (plainFor_of_name (by decide)) rfl (Nat.le_of_ble_eq_true rfl) hD hF (fun p e s m args below meth c ls C0 hP hS hl => ?_)
  have hl : lv_has ls 5 [(0, .ref (g.2.2 + 0)), (1, .int p1), (2, .int p2), (3, .int p3)] := hl
  have C0 : tm_C p m c cX9_claimedIfKissed 5 s args wsX9_claimedIfKissed RX9 meth (some .int) g A L tm_all := C0
  obtain ⟨⟨hx, hb, hml, hown, hts⟩, hr, hlk, hK, hD, hG, hF⟩ := id C0
  unfold f_X9_claimedIfKissed at h
  refine lv_aload_n hx hb dX9_claimedIfKissed_0 rfl (lv_at hl 0 rfl) ?_
  refine tm_get (C := RX9) (T := TX9) (N := 15) (v := .ref (g.2.2 + 125)) hx hb hts nX9_claimedIfKissed_X9 hown hK hP (hF 0 (by decide)) (tm_mkX9 (by decide) _) rfl 13 (by decide) (hts _ kX9_claimedIfKissed_0) rfl dX9_claimedIfKissed_1 ?_
  refine lv_aload_n hx hb dX9_claimedIfKissed_4 rfl (lv_at hl 0 rfl) ?_
  refine tm_get (C := RX9) (T := TX9) (N := 15) (v := .ref (g.2.2 + 20)) hx hb hts nX9_claimedIfKissed_X9 hown hK hP (hF 0 (by decide)) (tm_mkX9 (by decide) _) rfl 3 (by decide) (hts _ kX9_claimedIfKissed_1) rfl dX9_claimedIfKissed_5 ?_
  refine tm_get (C := RX8) (T := TX8) (N := 4) (v := .ref (g.2.2 + 22)) hx hb hts nX9_claimedIfKissed_X8 hown hK hP (hF 20 (by decide)) (tm_mkX8 (by decide) _) rfl 1 (by decide) (hts _ kX9_claimedIfKissed_2) rfl dX9_claimedIfKissed_8 ?_
  refine lv_iload_n hx hb dX9_claimedIfKissed_11 rfl (lv_at hl 1 rfl) ?_
  obtain ⟨x1, e2, h⟩ := tm_bd_some h
  refine tm_aald hx hb hK hP 3 (hF 22 (by decide)) (tm_mkL (by decide)) rfl e2 dX9_claimedIfKissed_12 ?_
  obtain ⟨M5, e4, h⟩ := tm_bd_some h
  refine tm_backV (M0 := M5) (fun _ q => q) (tm_callV (As := [.ref (g.2.2 + x1)]) (rest := []) ⟨hx, hb, hml, hown, hts⟩ hK hG hP hS (c_X1_copy l g A L hD hF M 125 x1 M5 e4) (cwV 1 hts gX9_claimedIfKissed_X1_copy rfl rfl rfl (by decide +kernel) ⟨Nat.le_of_ble_eq_true rfl, Nat.le_of_ble_eq_true rfl⟩) (tm_recv hK hP (hF 125 (by decide)) (ci := 0) rfl (tm_mkX1 (by decide) _)) rfl hl.1 (lv_room (Nat.le_of_ble_eq_true rfl)) dX9_claimedIfKissed_13 ⟨Nat.zero_le _, Nat.zero_le _⟩) hS (fun H locs hP hS => ?_)
  refine lv_iconst (v := 0) hx hb dX9_claimedIfKissed_16 (by decide) ?_
  refine lv_istore (lv' := [(4, .int 0), (0, .ref (g.2.2 + 0)), (1, .int p1), (2, .int p2), (3, .int p3)]) hx hb dX9_claimedIfKissed_17 hl (by decide) rfl (fun ls hl => ?_)
  refine w_X9_claimedIfKissed_L19 C0 p1 p2 p3 _ R0 (fun v15 M16 h H locs ls hP hS hl => ?_) 1000 0 M5 h _ _ _ hP hS (lv_sub hl [1, 2, 3, 4, 0] rfl)
  refine lv_aload_n hx hb dX9_claimedIfKissed_69 rfl (lv_at hl 0 rfl) ?_
  refine tm_get (C := RX9) (T := TX9) (N := 15) (v := .ref (g.2.2 + 125)) hx hb hts nX9_claimedIfKissed_X9 hown hK hP (hF 0 (by decide)) (tm_mkX9 (by decide) _) rfl 13 (by decide) (hts _ kX9_claimedIfKissed_0) rfl dX9_claimedIfKissed_70 ?_
  refine tm_get (C := RX1) (T := TX1) (N := 12) (v := .int (M16 125 9)) hx hb hts nX9_claimedIfKissed_X1 hown hK hP (hF 125 (by decide)) (tm_mkX1 (by decide) _) rfl 9 (by decide) (hts _ kX9_claimedIfKissed_5) rfl dX9_claimedIfKissed_73 ?_
  exact tm_iret C0 (Option.some.inj h) hP hS dX9_claimedIfKissed_76
/-! X9_kissOn -/
def f_X9_kissOn_L38 (k : Int32 → Int32 → Int32 → tm_M → Option (Int32 × tm_M)) (w1 : Int32) (w2 : Int32) : Nat → Int32 → Int32 → Int32 → tm_M → Option (Int32 × tm_M)
  | 0, _, _, _, _ => none
  | n + 1, v3, v4, v5, M =>
    if w2 ≤ v5 then
      k v3 v4 v5 M
    else
      (f_X9_claimedIfKissed M w1 w2 v5).bind fun r11 =>
      (some r11.1).bind fun x13 =>
      if v4 ≤ x13 then
        f_X9_kissOn_L38 k w1 w2 n v3 v4 (v5 + 1) r11.2
      else
        f_X9_kissOn_L38 k w1 w2 n v5 x13 (v5 + 1) r11.2
def f_X9_kissOn (M : tm_M) (p1 : Int32) (p2 : Int32) : Option (Int32 × tm_M) :=
  (f_X9_unknown M p1).bind fun r1 =>
  if r1 = 0 then
    (f_X9_outside p2 1 30).bind fun r4 =>
    if r4 = 0 then
      (f_X9_claimedIfKissed M p1 p2 (-1)).bind fun r7 =>
      (some r7.1).bind fun x9 =>
      f_X9_kissOn_L38 (fun v15 v16 v17 M18 =>
        some (v15, M18)) p1 p2 1000 (-1) x9 0 r7.2
    else
      some ((-3), M)
  else
    some ((-2), M)
set_option maxHeartbeats 4000000 in
set_option maxRecDepth 100000 in
theorem w_X9_kissOn_L38 {p : Program} {l : Launch} {e : Env} {s : State} {m : MethodId} {args : Array Value} {below : List Frame} {meth : Method} {c : Code} {g : tm_G} {A : Nat → Prop} {L : List Nat} (C0 : tm_C p m c cX9_kissOn 7 s args wsX9_kissOn RX9 meth (some .int) g A L tm_all) (w1 : Int32) (w2 : Int32) (k : Int32 → Int32 → Int32 → tm_M → Option (Int32 × tm_M)) (R0 : Int32 × tm_M) (hk : ∀ (v3 : Int32) (v4 : Int32) (v5 : Int32) (M : tm_M), k v3 v4 v5 M = some R0 → ∀ (H : Heap) (locs : List Loc) (ls : Array Slot), va_P g.1 vwCl (tm_ws g L M) H → va_S A s.heap H locs → lv_has ls 7 [(0, .ref (g.2.2 + 0)), (1, .int w1), (2, .int w2), (3, .int v3), (4, .int v4), (5, .int v5)] → W p l e { frames := 5, cells := 0, slots := 0, locals := 112 } s m args below meth c H locs 0 0 (MQ below (tm_QI g A L R0) args s 0 0 A) (F0 m 74 ls [])) : ∀ (n : Nat) (v3 : Int32) (v4 : Int32) (v5 : Int32) (M : tm_M), f_X9_kissOn_L38 k w1 w2 n v3 v4 v5 M = some R0 → ∀ (H : Heap) (locs : List Loc) (ls : Array Slot), va_P g.1 vwCl (tm_ws g L M) H → va_S A s.heap H locs → lv_has ls 7 [(0, .ref (g.2.2 + 0)), (1, .int w1), (2, .int w2), (3, .int v3), (4, .int v4), (5, .int v5)] → W p l e { frames := 5, cells := 0, slots := 0, locals := 112 } s m args below meth c H locs 0 0 (MQ below (tm_QI g A L R0) args s 0 0 A) (F0 m 38 ls []) := by
  obtain ⟨⟨hx, hb, hml, hown, hts⟩, hr, hlk, hK, hD, hG, hF⟩ := id C0
  intro n
  induction n with
  | zero =>
    intro v3 v4 v5 M h
    simp [f_X9_kissOn_L38] at h
  | succ n ih =>
    intro v3 v4 v5 M h H locs ls hP hS hl
    rw [f_X9_kissOn_L38] at h
    refine lv_iload hx hb dX9_kissOn_38 (lv_at hl 5 rfl) ?_
    refine lv_iload_n hx hb dX9_kissOn_40 rfl (lv_at hl 2 rfl) ?_
    refine lv_icmp_ge (tgt := 74) hx hb dX9_kissOn_41 (by decide) (fun c10 => ?_) (fun c10 => ?_)
    · rw [if_pos c10] at h
      exact hk v3 v4 v5 M h _ _ _ hP hS (lv_sub hl [0, 1, 2, 3, 4, 5] rfl)
    · rw [if_neg c10] at h
      refine lv_aload_n hx hb dX9_kissOn_44 rfl (lv_at hl 0 rfl) ?_
      refine lv_iload_n hx hb dX9_kissOn_45 rfl (lv_at hl 1 rfl) ?_
      refine lv_iload_n hx hb dX9_kissOn_46 rfl (lv_at hl 2 rfl) ?_
      refine lv_iload hx hb dX9_kissOn_47 (lv_at hl 5 rfl) ?_
      obtain ⟨r11, e12, h⟩ := tm_bd_some h
      refine tm_backI (r0 := r11.1) (M0 := r11.2) (fun _ q => q) (tm_callV (As := [.int w1, .int w2, .int v5]) (rest := []) ⟨hx, hb, hml, hown, hts⟩ hK hG hP hS (c_X9_claimedIfKissed l g A L hD hF M w1 w2 v5 r11 e12) (cwV 3 hts gX9_kissOn_X9_claimedIfKissed rfl rfl rfl (by decide +kernel) ⟨Nat.le_of_ble_eq_true rfl, Nat.le_of_ble_eq_true rfl⟩) (tm_recv hK hP (hF 0 (by decide)) (ci := 8) rfl (tm_mkX9 (by decide) _)) rfl hl.1 (lv_room (Nat.le_of_ble_eq_true rfl)) dX9_kissOn_49 ⟨Nat.zero_le _, Nat.zero_le _⟩) hS (fun H locs hP hS => ?_)
      refine tm_nam h (fun x13 h => ?_)
      refine lv_istore (lv' := [(6, .int x13), (0, .ref (g.2.2 + 0)), (1, .int w1), (2, .int w2), (3, .int v3), (4, .int v4), (5, .int v5)]) hx hb dX9_kissOn_52 hl (by decide) rfl (fun ls hl => ?_)
      refine lv_iload hx hb dX9_kissOn_54 (lv_at hl 0 rfl) ?_
      refine lv_iload hx hb dX9_kissOn_56 (lv_at hl 5 rfl) ?_
      refine lv_icmp_ge (tgt := 68) hx hb dX9_kissOn_58 (by decide) (fun c14 => ?_) (fun c14 => ?_)
      · rw [if_pos c14] at h
        refine lv_iinc (v := v5 + 1) (lv' := [(5, .int (v5 + 1)), (6, .int x13), (0, .ref (g.2.2 + 0)), (1, .int w1), (2, .int w2), (3, .int v3), (4, .int v4)]) hx hb dX9_kissOn_68 hl (k := 6) rfl rfl (by decide) rfl (fun ls hl => ?_)
        refine lv_goto (tgt := 38) hx hb dX9_kissOn_71 (by decide) ?_
        exact ih v3 v4 (v5 + 1) r11.2 h _ _ _ hP hS (lv_sub hl [2, 3, 4, 5, 6, 0] rfl)
      · rw [if_neg c14] at h
        refine lv_iload hx hb dX9_kissOn_61 (lv_at hl 0 rfl) ?_
        refine lv_istore (lv' := [(4, .int x13), (6, .int x13), (0, .ref (g.2.2 + 0)), (1, .int w1), (2, .int w2), (3, .int v3), (5, .int v5)]) hx hb dX9_kissOn_63 hl (by decide) rfl (fun ls hl => ?_)
        refine lv_iload hx hb dX9_kissOn_65 (lv_at hl 6 rfl) ?_
        refine lv_istore_n (lv' := [(3, .int v5), (4, .int x13), (6, .int x13), (0, .ref (g.2.2 + 0)), (1, .int w1), (2, .int w2), (5, .int v5)]) hx hb dX9_kissOn_67 rfl hl (by decide) rfl (fun ls hl => ?_)
        refine lv_iinc (v := v5 + 1) (lv' := [(5, .int (v5 + 1)), (3, .int v5), (4, .int x13), (6, .int x13), (0, .ref (g.2.2 + 0)), (1, .int w1), (2, .int w2)]) hx hb dX9_kissOn_68 hl (k := 6) rfl rfl (by decide) rfl (fun ls hl => ?_)
        refine lv_goto (tgt := 38) hx hb dX9_kissOn_71 (by decide) ?_
        exact ih v5 x13 (v5 + 1) r11.2 h _ _ _ hP hS (lv_sub hl [4, 5, 6, 1, 2, 0] rfl)
set_option maxHeartbeats 4000000 in
set_option maxRecDepth 100000 in
theorem c_X9_kissOn (l : Launch) (g : tm_G) (A : Nat → Prop) (L : List Nat) (hD : ∀ M, va_D A (tm_ws g L M)) (hF : ∀ o, tm_all o → o ∈ L) (M : tm_M) (p1 : Int32) (p2 : Int32) (R0 : Int32 × tm_M) (h : f_X9_kissOn M p1 p2 = some R0) : Met l yX9_kissOn wsX9_kissOn { frames := 5, cells := 0, slots := 0, locals := 112 } (tm_PC g A L M [.ref (g.2.2 + 0), .int p1, .int p2]) (tm_QI g A L R0) 0 0 A := by
  refine tm_start (cc := cX9_kissOn) (nL := 7) (ret := (some .int)) (F := tm_all) (plainFor_of_name (by decide)) rfl (Nat.le_of_ble_eq_true rfl) hD hF (fun p e s m args below meth c ls C0 hP hS hl => ?_)
  have hl : lv_has ls 7 [(0, .ref (g.2.2 + 0)), (1, .int p1), (2, .int p2)] := hl
  have C0 : tm_C p m c cX9_kissOn 7 s args wsX9_kissOn RX9 meth (some .int) g A L tm_all := C0
  obtain ⟨⟨hx, hb, hml, hown, hts⟩, hr, hlk, hK, hD, hG, hF⟩ := id C0
  unfold f_X9_kissOn at h
  refine lv_aload_n hx hb dX9_kissOn_0 rfl (lv_at hl 0 rfl) ?_
  refine lv_iload_n hx hb dX9_kissOn_1 rfl (lv_at hl 1 rfl) ?_
  obtain ⟨r1, e2, h⟩ := tm_bd_some h
  refine tm_backI (r0 := r1) (M0 := M) (fun _ q => q) (tm_callV (As := [.int p1]) (rest := []) ⟨hx, hb, hml, hown, hts⟩ hK hG hP hS (c_X9_unknown l g A L hD hF M p1 r1 e2) (cwV 1 hts gX9_kissOn_X9_unknown rfl rfl rfl (by decide +kernel) ⟨Nat.le_of_ble_eq_true rfl, Nat.le_of_ble_eq_true rfl⟩) (tm_recv hK hP (hF 0 (by decide)) (ci := 8) rfl (tm_mkX9 (by decide) _)) rfl hl.1 (lv_room (Nat.le_of_ble_eq_true rfl)) dX9_kissOn_2 ⟨Nat.zero_le _, Nat.zero_le _⟩) hS (fun H locs hP hS => ?_)
  refine lv_if_eq (tgt := 11) hx hb dX9_kissOn_5 (by decide) (fun c3 => ?_) (fun c3 => ?_)
  · rw [if_pos c3] at h
    refine lv_iload_n hx hb dX9_kissOn_11 rfl (lv_at hl 2 rfl) ?_
    refine lv_iconst (v := 1) hx hb dX9_kissOn_12 (by decide) ?_
    refine lv_bipush (v := 30) hx hb dX9_kissOn_13 (by decide) ?_
    obtain ⟨r4, e5, h⟩ := tm_bd_some h
    refine tm_backI (r0 := r4) (M0 := M) (fun _ q => q) (tm_callS (As := [.int p2, .int 1, .int 30]) (rest := []) ⟨hx, hb, hml, hown, hts⟩ hK hG hP hS (c_X9_outside l g A L hD hF M p2 1 30 r4 e5) (va_cwS 3 hts gX9_kissOn_X9_outside rfl rfl rfl (by decide +kernel) ⟨Nat.le_of_ble_eq_true rfl, Nat.le_of_ble_eq_true rfl⟩) rfl hl.1 (lv_room (Nat.le_of_ble_eq_true rfl)) dX9_kissOn_15 ⟨Nat.zero_le _, Nat.zero_le _⟩) hS (fun H locs hP hS => ?_)
    refine lv_if_eq (tgt := 24) hx hb dX9_kissOn_18 (by decide) (fun c6 => ?_) (fun c6 => ?_)
    · rw [if_pos c6] at h
      refine lv_iconst (v := (-1)) hx hb dX9_kissOn_24 (by decide) ?_
      refine lv_istore_n (lv' := [(3, .int (-1)), (0, .ref (g.2.2 + 0)), (1, .int p1), (2, .int p2)]) hx hb dX9_kissOn_25 rfl hl (by decide) rfl (fun ls hl => ?_)
      refine lv_aload_n hx hb dX9_kissOn_26 rfl (lv_at hl 1 rfl) ?_
      refine lv_iload_n hx hb dX9_kissOn_27 rfl (lv_at hl 2 rfl) ?_
      refine lv_iload_n hx hb dX9_kissOn_28 rfl (lv_at hl 3 rfl) ?_
      refine lv_iconst (v := (-1)) hx hb dX9_kissOn_29 (by decide) ?_
      obtain ⟨r7, e8, h⟩ := tm_bd_some h
      refine tm_backI (r0 := r7.1) (M0 := r7.2) (fun _ q => q) (tm_callV (As := [.int p1, .int p2, .int (-1)]) (rest := []) ⟨hx, hb, hml, hown, hts⟩ hK hG hP hS (c_X9_claimedIfKissed l g A L hD hF M p1 p2 (-1) r7 e8) (cwV 3 hts gX9_kissOn_X9_claimedIfKissed rfl rfl rfl (by decide +kernel) ⟨Nat.le_of_ble_eq_true rfl, Nat.le_of_ble_eq_true rfl⟩) (tm_recv hK hP (hF 0 (by decide)) (ci := 8) rfl (tm_mkX9 (by decide) _)) rfl hl.1 (lv_room (Nat.le_of_ble_eq_true rfl)) dX9_kissOn_30 ⟨Nat.zero_le _, Nat.zero_le _⟩) hS (fun H locs hP hS => ?_)
      refine tm_nam h (fun x9 h => ?_)
      refine lv_istore (lv' := [(4, .int x9), (3, .int (-1)), (0, .ref (g.2.2 + 0)), (1, .int p1), (2, .int p2)]) hx hb dX9_kissOn_33 hl (by decide) rfl (fun ls hl => ?_)
      refine lv_iconst (v := 0) hx hb dX9_kissOn_35 (by decide) ?_
      refine lv_istore (lv' := [(5, .int 0), (4, .int x9), (3, .int (-1)), (0, .ref (g.2.2 + 0)), (1, .int p1), (2, .int p2)]) hx hb dX9_kissOn_36 hl (by decide) rfl (fun ls hl => ?_)
      refine w_X9_kissOn_L38 C0 p1 p2 _ R0 (fun v15 v16 v17 M18 h H locs ls hP hS hl => ?_) 1000 (-1) x9 0 r7.2 h _ _ _ hP hS (lv_sub hl [3, 4, 5, 2, 1, 0] rfl)
      refine lv_iload_n hx hb dX9_kissOn_74 rfl (lv_at hl 3 rfl) ?_
      exact tm_iret C0 (Option.some.inj h) hP hS dX9_kissOn_75
    · rw [if_neg c6] at h
      refine lv_bipush (v := (-3)) hx hb dX9_kissOn_21 (by decide) ?_
      exact tm_iret C0 (Option.some.inj h) hP hS dX9_kissOn_23
  · rw [if_neg c3] at h
    refine lv_bipush (v := (-2)) hx hb dX9_kissOn_8 (by decide) ?_
    exact tm_iret C0 (Option.some.inj h) hP hS dX9_kissOn_10
/-! J6_bitCount_0f7a4 -/
theorem kJ6_bitCount_0f7a4_0 : Cond.constant RJ6 265 (1431655765) ∈ wsJ6_bitCount_0f7a4 := by decide +kernel
theorem kJ6_bitCount_0f7a4_1 : Cond.constant RJ6 266 (858993459) ∈ wsJ6_bitCount_0f7a4 := by decide +kernel
theorem kJ6_bitCount_0f7a4_2 : Cond.constant RJ6 267 (252645135) ∈ wsJ6_bitCount_0f7a4 := by decide +kernel
def f_J6_bitCount_0f7a4 (p0 : Int32) : Option Int32 :=
  (some (p0 - (((p0.toUInt32 >>> ((1 : Int32).toUInt32 &&& Int32.toUInt32 31)).toInt32) &&& 1431655765))).bind fun x1 =>
  (some ((x1 &&& 858993459) + (((x1.toUInt32 >>> ((2 : Int32).toUInt32 &&& Int32.toUInt32 31)).toInt32) &&& 858993459))).bind fun x2 =>
  (some ((x2 + ((x2.toUInt32 >>> ((4 : Int32).toUInt32 &&& Int32.toUInt32 31)).toInt32)) &&& 252645135)).bind fun x3 =>
  (some (x3 + ((x3.toUInt32 >>> ((8 : Int32).toUInt32 &&& Int32.toUInt32 31)).toInt32))).bind fun x4 =>
  (some (x4 + ((x4.toUInt32 >>> ((16 : Int32).toUInt32 &&& Int32.toUInt32 31)).toInt32))).bind fun x5 =>
  some (x5 &&& 63)
set_option maxHeartbeats 4000000 in
set_option maxRecDepth 100000 in
theorem c_J6_bitCount_0f7a4 (l : Launch) (g : tm_G) (A : Nat → Prop) (L : List Nat) (hD : ∀ M, va_D A (tm_ws g L M)) (hF : ∀ o, tm_all o → o ∈ L) (M : tm_M) (p0 : Int32) (r0 : Int32) (h : f_J6_bitCount_0f7a4 p0 = some r0) : Met l yJ6_bitCount_0f7a4 wsJ6_bitCount_0f7a4 { frames := 0, cells := 0, slots := 0, locals := 0 } (tm_PC g A L M [.int p0]) (tm_QI g A L (r0, M)) 0 0 A := by
  refine tm_start (cc := cJ6_bitCount_0f7a4) (nL := 1) (ret := (some .int)) (F := tm_all) (plainFor_of_name (by decide)) rfl (Nat.le_of_ble_eq_true rfl) hD hF (fun p e s m args below meth c ls C0 hP hS hl => ?_)
  have hl : lv_has ls 1 [(0, .int p0)] := hl
  have C0 : tm_C p m c cJ6_bitCount_0f7a4 1 s args wsJ6_bitCount_0f7a4 RJ6 meth (some .int) g A L tm_all := C0
  obtain ⟨⟨hx, hb, hml, hown, hts⟩, hr, hlk, hK, hD, hG, hF⟩ := id C0
  unfold f_J6_bitCount_0f7a4 at h
  refine lv_iload_n hx hb dJ6_bitCount_0f7a4_0 rfl (lv_at hl 0 rfl) ?_
  refine lv_iload_n hx hb dJ6_bitCount_0f7a4_1 rfl (lv_at hl 0 rfl) ?_
  refine lv_iconst (v := 1) hx hb dJ6_bitCount_0f7a4_2 (by decide) ?_
  refine lv_iushr hx hb dJ6_bitCount_0f7a4_3 rfl ?_
  refine lv_ldcw (v := 1431655765) hx hb hown (hts _ kJ6_bitCount_0f7a4_0) dJ6_bitCount_0f7a4_4 ?_
  refine lv_iand hx hb dJ6_bitCount_0f7a4_7 ?_
  refine lv_isub hx hb dJ6_bitCount_0f7a4_8 ?_
  refine tm_nam h (fun x1 h => ?_)
  refine lv_istore_n (lv' := [(0, .int x1)]) hx hb dJ6_bitCount_0f7a4_9 rfl hl (by decide) rfl (fun ls hl => ?_)
  refine lv_iload_n hx hb dJ6_bitCount_0f7a4_10 rfl (lv_at hl 0 rfl) ?_
  refine lv_ldcw (v := 858993459) hx hb hown (hts _ kJ6_bitCount_0f7a4_1) dJ6_bitCount_0f7a4_11 ?_
  refine lv_iand hx hb dJ6_bitCount_0f7a4_14 ?_
  refine lv_iload_n hx hb dJ6_bitCount_0f7a4_15 rfl (lv_at hl 0 rfl) ?_
  refine lv_iconst (v := 2) hx hb dJ6_bitCount_0f7a4_16 (by decide) ?_
  refine lv_iushr hx hb dJ6_bitCount_0f7a4_17 rfl ?_
  refine lv_ldcw (v := 858993459) hx hb hown (hts _ kJ6_bitCount_0f7a4_1) dJ6_bitCount_0f7a4_18 ?_
  refine lv_iand hx hb dJ6_bitCount_0f7a4_21 ?_
  refine lv_iadd hx hb dJ6_bitCount_0f7a4_22 ?_
  refine tm_nam h (fun x2 h => ?_)
  refine lv_istore_n (lv' := [(0, .int x2)]) hx hb dJ6_bitCount_0f7a4_23 rfl hl (by decide) rfl (fun ls hl => ?_)
  refine lv_iload_n hx hb dJ6_bitCount_0f7a4_24 rfl (lv_at hl 0 rfl) ?_
  refine lv_iload_n hx hb dJ6_bitCount_0f7a4_25 rfl (lv_at hl 0 rfl) ?_
  refine lv_iconst (v := 4) hx hb dJ6_bitCount_0f7a4_26 (by decide) ?_
  refine lv_iushr hx hb dJ6_bitCount_0f7a4_27 rfl ?_
  refine lv_iadd hx hb dJ6_bitCount_0f7a4_28 ?_
  refine lv_ldcw (v := 252645135) hx hb hown (hts _ kJ6_bitCount_0f7a4_2) dJ6_bitCount_0f7a4_29 ?_
  refine lv_iand hx hb dJ6_bitCount_0f7a4_32 ?_
  refine tm_nam h (fun x3 h => ?_)
  refine lv_istore_n (lv' := [(0, .int x3)]) hx hb dJ6_bitCount_0f7a4_33 rfl hl (by decide) rfl (fun ls hl => ?_)
  refine lv_iload_n hx hb dJ6_bitCount_0f7a4_34 rfl (lv_at hl 0 rfl) ?_
  refine lv_iload_n hx hb dJ6_bitCount_0f7a4_35 rfl (lv_at hl 0 rfl) ?_
  refine lv_bipush (v := 8) hx hb dJ6_bitCount_0f7a4_36 (by decide) ?_
  refine lv_iushr hx hb dJ6_bitCount_0f7a4_38 rfl ?_
  refine lv_iadd hx hb dJ6_bitCount_0f7a4_39 ?_
  refine tm_nam h (fun x4 h => ?_)
  refine lv_istore_n (lv' := [(0, .int x4)]) hx hb dJ6_bitCount_0f7a4_40 rfl hl (by decide) rfl (fun ls hl => ?_)
  refine lv_iload_n hx hb dJ6_bitCount_0f7a4_41 rfl (lv_at hl 0 rfl) ?_
  refine lv_iload_n hx hb dJ6_bitCount_0f7a4_42 rfl (lv_at hl 0 rfl) ?_
  refine lv_bipush (v := 16) hx hb dJ6_bitCount_0f7a4_43 (by decide) ?_
  refine lv_iushr hx hb dJ6_bitCount_0f7a4_45 rfl ?_
  refine lv_iadd hx hb dJ6_bitCount_0f7a4_46 ?_
  refine tm_nam h (fun x5 h => ?_)
  refine lv_istore_n (lv' := [(0, .int x5)]) hx hb dJ6_bitCount_0f7a4_47 rfl hl (by decide) rfl (fun ls hl => ?_)
  refine lv_iload_n hx hb dJ6_bitCount_0f7a4_48 rfl (lv_at hl 0 rfl) ?_
  refine lv_bipush (v := 63) hx hb dJ6_bitCount_0f7a4_49 (by decide) ?_
  refine lv_iand hx hb dJ6_bitCount_0f7a4_51 ?_
  exact tm_iret C0 (by rw [Option.some.inj h]) hP hS dJ6_bitCount_0f7a4_52
