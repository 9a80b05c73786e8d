/-! X0_gain -/
theorem nX0_gain_X1 : ∀ w ∈ wsX10, w ∈ wsX0_gain := by decide +kernel
theorem kX0_gain_0 : Cond.fieldLink RX0 7 "QuarrelDesk$Life" "temper" "I" ∈ wsX0_gain := by decide +kernel
def f_X0_gain (M : tm_M) (o0 : Nat) (o1 : Nat) (p2 : Int32) : Option Int32 :=
  tm_gd (tm_shp o1 = 0) <|
  some (M o1 1)
set_option maxHeartbeats 4000000 in
set_option maxRecDepth 100000 in
theorem c_X0_gain (l : Launch) (g : tm_G) (A : Nat → Prop) (L : List Nat) (hD : ∀ M, va_D A (tm_ws g L M)) (hF : ∀ o, tm_all o → o ∈ L) (M : tm_M) (o0 : Nat) (o1 : Nat) (p2 : Int32) (r0 : Int32) (h : f_X0_gain M o0 o1 p2 = some r0) : Met l yX0_gain wsX0_gain { frames := 0, cells := 0, slots := 0, locals := 0 } (tm_PC g A L M [.ref (g.2.2 + o0), .ref (g.2.2 + o1), .int p2]) (tm_QI g A L (r0, M)) 0 0 A := by
  refine tm_start (cc := cX0_gain) (nL := 3) (ret := (some .int)) (F := tm_all) (plainFor_of_name (by decide)) rfl (Nat.le_of_ble_eq_true rfl) hD hF (fun p e s m args below meth c ls C0 hP hS hl => ?_)
  have hl : lv_has ls 3 [(0, .ref (g.2.2 + o0)), (1, .ref (g.2.2 + o1)), (2, .int p2)] := hl
  have C0 : tm_C p m c cX0_gain 3 s args wsX0_gain RX0 meth (some .int) g A L tm_all := C0
  obtain ⟨⟨hx, hb, hml, hown, hts⟩, hr, hlk, hK, hD, hG, hF⟩ := id C0
  unfold f_X0_gain at h
  obtain ⟨g1, h⟩ := tm_gd_some h
  refine lv_aload_n hx hb dX0_gain_0 rfl (lv_at hl 1 rfl) ?_
  refine tm_get (C := RX1) (T := TX1) (N := 12) (v := .int (M o1 1)) hx hb hts nX0_gain_X1 hown hK hP (hF _ (tm_lt g1)) (tm_mkX1 g1 _) rfl 1 (by decide) (hts _ kX0_gain_0) rfl dX0_gain_1 ?_
  exact tm_iret C0 (by rw [Option.some.inj h]) hP hS dX0_gain_4
/-! X0_isCovered -/
def f_X0_isCovered (o0 : Nat) (p1 : Int32) : Option Int32 :=
  some 1
set_option maxHeartbeats 4000000 in
set_option maxRecDepth 100000 in
theorem c_X0_isCovered (l : Launch) (g : tm_G) (A : Nat → Prop) (L : List Nat) (hD : ∀ M, va_D A (tm_ws g L M)) (hF : ∀ o, tm_all o → o ∈ L) (M : tm_M) (o0 : Nat) (p1 : Int32) (r0 : Int32) (h : f_X0_isCovered o0 p1 = some r0) : Met l yX0_isCovered wsX0_isCovered { frames := 0, cells := 0, slots := 0, locals := 0 } (tm_PC g A L M [.ref (g.2.2 + o0), .int p1]) (tm_QI g A L (r0, M)) 0 0 A := by
  refine tm_start (cc := cX0_isCovered) (nL := 2) (ret := (some .boolean)) (F := tm_all) (plainFor_of_name (by decide)) rfl (Nat.le_of_ble_eq_true rfl) hD hF (fun p e s m args below meth c ls C0 hP hS hl => ?_)
  have hl : lv_has ls 2 [(0, .ref (g.2.2 + o0)), (1, .int p1)] := hl
  have C0 : tm_C p m c cX0_isCovered 2 s args wsX0_isCovered RX0 meth (some .boolean) g A L tm_all := C0
  obtain ⟨⟨hx, hb, hml, hown, hts⟩, hr, hlk, hK, hD, hG, hF⟩ := id C0
  unfold f_X0_isCovered at h
  refine lv_iconst (v := 1) hx hb dX0_isCovered_0 (by decide) ?_
  exact tm_zret C0 (by unfold tm_isB; decide) (by rw [Option.some.inj h]) hP hS dX0_isCovered_1
/-! X0_isSunday -/
def f_X0_isSunday (p0 : Int32) : Option Int32 :=
  if (p0 - p0 / 7 * 7) = 6 then
    some 1
  else
    some 0
set_option maxHeartbeats 4000000 in
set_option maxRecDepth 100000 in
theorem c_X0_isSunday (l : Launch) (g : tm_G) (A : Nat → Prop) (L : List Nat) (hD : ∀ M, va_D A (tm_ws g L M)) (hF : ∀ o, tm_all o → o ∈ L) (M : tm_M) (p0 : Int32) (r0 : Int32) (h : f_X0_isSunday p0 = some r0) : Met l yX0_isSunday wsX0_isSunday { frames := 0, cells := 0, slots := 0, locals := 0 } (tm_PC g A L M [.int p0]) (tm_QI g A L (r0, M)) 0 0 A := by
  refine tm_start (cc := cX0_isSunday) (nL := 1) (ret := (some .boolean)) (F := tm_all) (plainFor_of_name (by decide)) rfl (Nat.le_of_ble_eq_true rfl) hD hF (fun p e s m args below meth c ls C0 hP hS hl => ?_)
  have hl : lv_has ls 1 [(0, .int p0)] := hl
  have C0 : tm_C p m c cX0_isSunday 1 s args wsX0_isSunday RX0 meth (some .boolean) g A L tm_all := C0
  obtain ⟨⟨hx, hb, hml, hown, hts⟩, hr, hlk, hK, hD, hG, hF⟩ := id C0
  unfold f_X0_isSunday at h
  refine lv_iload_n hx hb dX0_isSunday_0 rfl (lv_at hl 0 rfl) ?_
  refine lv_bipush (v := 7) hx hb dX0_isSunday_1 (by decide) ?_
  refine lv_irem hx hb dX0_isSunday_3 (by decide) ?_
  refine lv_bipush (v := 6) hx hb dX0_isSunday_4 (by decide) ?_
  refine lv_icmp_ne (tgt := 13) hx hb dX0_isSunday_6 (by decide) (fun c1 => ?_) (fun c1 => ?_)
  · rw [if_neg c1] at h
    refine lv_iconst (v := 0) hx hb dX0_isSunday_13 (by decide) ?_
    exact tm_zret C0 (by unfold tm_isB; decide) (by rw [Option.some.inj h]) hP hS dX0_isSunday_14
  · rw [if_pos c1] at h
    refine lv_iconst (v := 1) hx hb dX0_isSunday_9 (by decide) ?_
    refine lv_goto (tgt := 14) hx hb dX0_isSunday_10 (by decide) ?_
    exact tm_zret C0 (by unfold tm_isB; decide) (by rw [Option.some.inj h]) hP hS dX0_isSunday_14
/-! X1_begin -/
theorem nX1_begin_X1 : ∀ w ∈ wsX10, w ∈ wsX1_begin := by decide +kernel
theorem kX1_begin_0 : Cond.fieldLink RX1 15 "QuarrelDesk$Life" "nature" "LQuarrelDesk$Couple;" ∈ wsX1_begin := by decide +kernel
theorem kX1_begin_1 : Cond.fieldLink RX1 19 "QuarrelDesk$Life" "temper" "I" ∈ wsX1_begin := by decide +kernel
theorem kX1_begin_2 : Cond.fieldLink RX1 23 "QuarrelDesk$Life" "strain" "I" ∈ wsX1_begin := by decide +kernel
theorem kX1_begin_3 : Cond.fieldLink RX1 26 "QuarrelDesk$Life" "silent" "I" ∈ wsX1_begin := by decide +kernel
theorem kX1_begin_4 : Cond.fieldLink RX1 29 "QuarrelDesk$Life" "isVoid" "Z" ∈ wsX1_begin := by decide +kernel
theorem kX1_begin_5 : Cond.fieldLink RX1 33 "QuarrelDesk$Life" "breaks" "I" ∈ wsX1_begin := by decide +kernel
theorem kX1_begin_6 : Cond.fieldLink RX1 36 "QuarrelDesk$Life" "tiffs" "I" ∈ wsX1_begin := by decide +kernel
theorem kX1_begin_7 : Cond.fieldLink RX1 39 "QuarrelDesk$Life" "halved" "I" ∈ wsX1_begin := by decide +kernel
theorem kX1_begin_8 : Cond.fieldLink RX1 42 "QuarrelDesk$Life" "paid" "I" ∈ wsX1_begin := by decide +kernel
theorem kX1_begin_9 : Cond.fieldLink RX1 45 "QuarrelDesk$Life" "claimed" "I" ∈ wsX1_begin := by decide +kernel
theorem kX1_begin_10 : Cond.fieldLink RX1 48 "QuarrelDesk$Life" "lastBreak" "I" ∈ wsX1_begin := by decide +kernel
theorem kX1_begin_11 : Cond.fieldLink RX1 51 "QuarrelDesk$Life" "hadTiff" "Z" ∈ wsX1_begin := by decide +kernel
def f_X1_begin (M : tm_M) (o0 : Nat) (o1 : Nat) (p2 : Int32) (p3 : Int32) : Option tm_M :=
  tm_gd (tm_shp o0 = 0) <|
  tm_gd (0 < o1 ∧ o1 < 143) <|
  (some (tm_st M o0 0 (nI o1))).bind fun M3 =>
  (some (tm_st M3 o0 1 p2)).bind fun M5 =>
  (some (tm_st M5 o0 2 p3)).bind fun M7 =>
  (some (tm_st M7 o0 3 0)).bind fun M9 =>
  (some (tm_st M9 o0 4 0)).bind fun M11 =>
  (some (tm_st M11 o0 5 0)).bind fun M13 =>
  (some (tm_st M13 o0 6 0)).bind fun M15 =>
  (some (tm_st M15 o0 7 0)).bind fun M17 =>
  (some (tm_st M17 o0 8 0)).bind fun M19 =>
  (some (tm_st M19 o0 9 0)).bind fun M21 =>
  (some (tm_st M21 o0 10 (-1))).bind fun M23 =>
  (some (tm_st M23 o0 11 0)).bind fun M25 =>
  some M25
set_option maxHeartbeats 4000000 in
set_option maxRecDepth 100000 in
theorem c_X1_begin (l : Launch) (g : tm_G) (A : Nat → Prop) (L : List Nat) (hD : ∀ M, va_D A (tm_ws g L M)) (hF : ∀ o, tm_all o → o ∈ L) (M : tm_M) (o0 : Nat) (o1 : Nat) (p2 : Int32) (p3 : Int32) (M0 : tm_M) (h : f_X1_begin M o0 o1 p2 p3 = some M0) : Met l yX1_begin wsX1_begin { frames := 0, cells := 0, slots := 0, locals := 0 } (tm_PC g A L M [.ref (g.2.2 + o0), .ref (g.2.2 + o1), .int p2, .int p3]) (tm_QV g A L M0) 0 0 A := by
  refine tm_start (cc := cX1_begin) (nL := 4) (ret := none) (F := tm_all) (plainFor_of_name (by decide)) rfl (Nat.le_of_ble_eq_true rfl) hD hF (fun p e s m args below meth c ls C0 hP hS hl => ?_)
  have hl : lv_has ls 4 [(0, .ref (g.2.2 + o0)), (1, .ref (g.2.2 + o1)), (2, .int p2), (3, .int p3)] := hl
  have C0 : tm_C p m c cX1_begin 4 s args wsX1_begin RX1 meth none g A L tm_all := C0
  obtain ⟨⟨hx, hb, hml, hown, hts⟩, hr, hlk, hK, hD, hG, hF⟩ := id C0
  unfold f_X1_begin at h
  obtain ⟨g1, h⟩ := tm_gd_some h
  refine lv_aload_n hx hb dX1_begin_0 rfl (lv_at hl 0 rfl) ?_
  refine lv_aload_n hx hb dX1_begin_1 rfl (lv_at hl 1 rfl) ?_
  obtain ⟨g2, h⟩ := tm_gd_some h
  obtain ⟨M3, e4, h⟩ := tm_bd_some h
  refine tm_put (C := RX1) (T := TX1) (N := 12) (ty := (.object "QuarrelDesk$Couple")) (x := nI o1) hx hb hts nX1_begin_X1 tyX1 tyX1_ok nmX1 hown hK hP hD hS (hF _ (tm_lt g1)) (tm_mkX1 g1) rfl 0 (by decide) (hts _ kX1_begin_0) rfl (by decide +kernel) rfl rfl (Nat.le_of_ble_eq_true rfl) (tm_natP g2) (Option.some.inj e4) dX1_begin_2 (fun H locs hP hS => ?_)
  refine lv_aload_n hx hb dX1_begin_5 rfl (lv_at hl 0 rfl) ?_
  refine lv_iload_n hx hb dX1_begin_6 rfl (lv_at hl 2 rfl) ?_
  obtain ⟨M5, e6, h⟩ := tm_bd_some h
  refine tm_put (C := RX1) (T := TX1) (N := 12) (ty := .int) (x := p2) hx hb hts nX1_begin_X1 tyX1 tyX1_ok nmX1 hown hK hP hD hS (hF _ (tm_lt g1)) (tm_mkX1 g1) rfl 1 (by decide) (hts _ kX1_begin_1) rfl (by decide +kernel) rfl rfl (Nat.le_of_ble_eq_true rfl) rfl (Option.some.inj e6) dX1_begin_7 (fun H locs hP hS => ?_)
  refine lv_aload_n hx hb dX1_begin_10 rfl (lv_at hl 0 rfl) ?_
  refine lv_iload_n hx hb dX1_begin_11 rfl (lv_at hl 3 rfl) ?_
  obtain ⟨M7, e8, h⟩ := tm_bd_some h
  refine tm_put (C := RX1) (T := TX1) (N := 12) (ty := .int) (x := p3) hx hb hts nX1_begin_X1 tyX1 tyX1_ok nmX1 hown hK hP hD hS (hF _ (tm_lt g1)) (tm_mkX1 g1) rfl 2 (by decide) (hts _ kX1_begin_2) rfl (by decide +kernel) rfl rfl (Nat.le_of_ble_eq_true rfl) rfl (Option.some.inj e8) dX1_begin_12 (fun H locs hP hS => ?_)
  refine lv_aload_n hx hb dX1_begin_15 rfl (lv_at hl 0 rfl) ?_
  refine lv_iconst (v := 0) hx hb dX1_begin_16 (by decide) ?_
  obtain ⟨M9, e10, h⟩ := tm_bd_some h
  refine tm_put (C := RX1) (T := TX1) (N := 12) (ty := .int) (x := 0) hx hb hts nX1_begin_X1 tyX1 tyX1_ok nmX1 hown hK hP hD hS (hF _ (tm_lt g1)) (tm_mkX1 g1) rfl 3 (by decide) (hts _ kX1_begin_3) rfl (by decide +kernel) rfl rfl (Nat.le_of_ble_eq_true rfl) rfl (Option.some.inj e10) dX1_begin_17 (fun H locs hP hS => ?_)
  refine lv_aload_n hx hb dX1_begin_20 rfl (lv_at hl 0 rfl) ?_
  refine lv_iconst (v := 0) hx hb dX1_begin_21 (by decide) ?_
  obtain ⟨M11, e12, h⟩ := tm_bd_some h
  refine tm_put (C := RX1) (T := TX1) (N := 12) (ty := .boolean) (x := 0) hx hb hts nX1_begin_X1 tyX1 tyX1_ok nmX1 hown hK hP hD hS (hF _ (tm_lt g1)) (tm_mkX1 g1) rfl 4 (by decide) (hts _ kX1_begin_4) rfl (by decide +kernel) rfl rfl (Nat.le_of_ble_eq_true rfl) rfl (Option.some.inj e12) dX1_begin_22 (fun H locs hP hS => ?_)
  refine lv_aload_n hx hb dX1_begin_25 rfl (lv_at hl 0 rfl) ?_
  refine lv_iconst (v := 0) hx hb dX1_begin_26 (by decide) ?_
  obtain ⟨M13, e14, h⟩ := tm_bd_some h
  refine tm_put (C := RX1) (T := TX1) (N := 12) (ty := .int) (x := 0) hx hb hts nX1_begin_X1 tyX1 tyX1_ok nmX1 hown hK hP hD hS (hF _ (tm_lt g1)) (tm_mkX1 g1) rfl 5 (by decide) (hts _ kX1_begin_5) rfl (by decide +kernel) rfl rfl (Nat.le_of_ble_eq_true rfl) rfl (Option.some.inj e14) dX1_begin_27 (fun H locs hP hS => ?_)
  refine lv_aload_n hx hb dX1_begin_30 rfl (lv_at hl 0 rfl) ?_
  refine lv_iconst (v := 0) hx hb dX1_begin_31 (by decide) ?_
  obtain ⟨M15, e16, h⟩ := tm_bd_some h
  refine tm_put (C := RX1) (T := TX1) (N := 12) (ty := .int) (x := 0) hx hb hts nX1_begin_X1 tyX1 tyX1_ok nmX1 hown hK hP hD hS (hF _ (tm_lt g1)) (tm_mkX1 g1) rfl 6 (by decide) (hts _ kX1_begin_6) rfl (by decide +kernel) rfl rfl (Nat.le_of_ble_eq_true rfl) rfl (Option.some.inj e16) dX1_begin_32 (fun H locs hP hS => ?_)
  refine lv_aload_n hx hb dX1_begin_35 rfl (lv_at hl 0 rfl) ?_
  refine lv_iconst (v := 0) hx hb dX1_begin_36 (by decide) ?_
  obtain ⟨M17, e18, h⟩ := tm_bd_some h
  refine tm_put (C := RX1) (T := TX1) (N := 12) (ty := .int) (x := 0) hx hb hts nX1_begin_X1 tyX1 tyX1_ok nmX1 hown hK hP hD hS (hF _ (tm_lt g1)) (tm_mkX1 g1) rfl 7 (by decide) (hts _ kX1_begin_7) rfl (by decide +kernel) rfl rfl (Nat.le_of_ble_eq_true rfl) rfl (Option.some.inj e18) dX1_begin_37 (fun H locs hP hS => ?_)
  refine lv_aload_n hx hb dX1_begin_40 rfl (lv_at hl 0 rfl) ?_
  refine lv_iconst (v := 0) hx hb dX1_begin_41 (by decide) ?_
  obtain ⟨M19, e20, h⟩ := tm_bd_some h
  refine tm_put (C := RX1) (T := TX1) (N := 12) (ty := .int) (x := 0) hx hb hts nX1_begin_X1 tyX1 tyX1_ok nmX1 hown hK hP hD hS (hF _ (tm_lt g1)) (tm_mkX1 g1) rfl 8 (by decide) (hts _ kX1_begin_8) rfl (by decide +kernel) rfl rfl (Nat.le_of_ble_eq_true rfl) rfl (Option.some.inj e20) dX1_begin_42 (fun H locs hP hS => ?_)
  refine lv_aload_n hx hb dX1_begin_45 rfl (lv_at hl 0 rfl) ?_
  refine lv_iconst (v := 0) hx hb dX1_begin_46 (by decide) ?_
  obtain ⟨M21, e22, h⟩ := tm_bd_some h
  refine tm_put (C := RX1) (T := TX1) (N := 12) (ty := .int) (x := 0) hx hb hts nX1_begin_X1 tyX1 tyX1_ok nmX1 hown hK hP hD hS (hF _ (tm_lt g1)) (tm_mkX1 g1) rfl 9 (by decide) (hts _ kX1_begin_9) rfl (by decide +kernel) rfl rfl (Nat.le_of_ble_eq_true rfl) rfl (Option.some.inj e22) dX1_begin_47 (fun H locs hP hS => ?_)
  refine lv_aload_n hx hb dX1_begin_50 rfl (lv_at hl 0 rfl) ?_
  refine lv_iconst (v := (-1)) hx hb dX1_begin_51 (by decide) ?_
  obtain ⟨M23, e24, h⟩ := tm_bd_some h
  refine tm_put (C := RX1) (T := TX1) (N := 12) (ty := .int) (x := (-1)) hx hb hts nX1_begin_X1 tyX1 tyX1_ok nmX1 hown hK hP hD hS (hF _ (tm_lt g1)) (tm_mkX1 g1) rfl 10 (by decide) (hts _ kX1_begin_10) rfl (by decide +kernel) rfl rfl (Nat.le_of_ble_eq_true rfl) rfl (Option.some.inj e24) dX1_begin_52 (fun H locs hP hS => ?_)
  refine lv_aload_n hx hb dX1_begin_55 rfl (lv_at hl 0 rfl) ?_
  refine lv_iconst (v := 0) hx hb dX1_begin_56 (by decide) ?_
  obtain ⟨M25, e26, h⟩ := tm_bd_some h
  refine tm_put (C := RX1) (T := TX1) (N := 12) (ty := .boolean) (x := 0) hx hb hts nX1_begin_X1 tyX1 tyX1_ok nmX1 hown hK hP hD hS (hF _ (tm_lt g1)) (tm_mkX1 g1) rfl 11 (by decide) (hts _ kX1_begin_11) rfl (by decide +kernel) rfl rfl (Nat.le_of_ble_eq_true rfl) rfl (Option.some.inj e26) dX1_begin_57 (fun H locs hP hS => ?_)
  exact tm_vret C0 (Option.some.inj h) hP hS dX1_begin_60
/-! X1_copy -/
theorem nX1_copy_X1 : ∀ w ∈ wsX10, w ∈ wsX1_copy := by decide +kernel
theorem kX1_copy_0 : Cond.fieldLink RX1 15 "QuarrelDesk$Life" "nature" "LQuarrelDesk$Couple;" ∈ wsX1_copy := by decide +kernel
theorem kX1_copy_1 : Cond.fieldLink RX1 19 "QuarrelDesk$Life" "temper" "I" ∈ wsX1_copy := by decide +kernel
theorem kX1_copy_2 : Cond.fieldLink RX1 23 "QuarrelDesk$Life" "strain" "I" ∈ wsX1_copy := by decide +kernel
theorem kX1_copy_3 : Cond.fieldLink RX1 26 "QuarrelDesk$Life" "silent" "I" ∈ wsX1_copy := by decide +kernel
theorem kX1_copy_4 : Cond.fieldLink RX1 29 "QuarrelDesk$Life" "isVoid" "Z" ∈ wsX1_copy := by decide +kernel
theorem kX1_copy_5 : Cond.fieldLink RX1 33 "QuarrelDesk$Life" "breaks" "I" ∈ wsX1_copy := by decide +kernel
theorem kX1_copy_6 : Cond.fieldLink RX1 36 "QuarrelDesk$Life" "tiffs" "I" ∈ wsX1_copy := by decide +kernel
theorem kX1_copy_7 : Cond.fieldLink RX1 39 "QuarrelDesk$Life" "halved" "I" ∈ wsX1_copy := by decide +kernel
theorem kX1_copy_8 : Cond.fieldLink RX1 42 "QuarrelDesk$Life" "paid" "I" ∈ wsX1_copy := by decide +kernel
theorem kX1_copy_9 : Cond.fieldLink RX1 45 "QuarrelDesk$Life" "claimed" "I" ∈ wsX1_copy := by decide +kernel
theorem kX1_copy_10 : Cond.fieldLink RX1 48 "QuarrelDesk$Life" "lastBreak" "I" ∈ wsX1_copy := by decide +kernel
theorem kX1_copy_11 : Cond.fieldLink RX1 51 "QuarrelDesk$Life" "hadTiff" "Z" ∈ wsX1_copy := by decide +kernel
def f_X1_copy (M : tm_M) (o0 : Nat) (o1 : Nat) : Option tm_M :=
  tm_gd (tm_shp o0 = 0) <|
  tm_gd (tm_shp o1 = 0) <|
  tm_gd (¬ M o1 0 = 0) <|
  tm_gd (0 < ((M o1 0).toNatClampNeg) ∧ ((M o1 0).toNatClampNeg) < 143) <|
  (some (tm_st M o0 0 (nI ((M o1 0).toNatClampNeg)))).bind fun M5 =>
  (some (tm_st M5 o0 1 (M5 o1 1))).bind fun M7 =>
  (some (tm_st M7 o0 2 (M7 o1 2))).bind fun M9 =>
  (some (tm_st M9 o0 3 (M9 o1 3))).bind fun M11 =>
  tm_gd ((M11 o1 4) = 0 ∨ (M11 o1 4) = 1) <|
  (some (tm_st M11 o0 4 (M11 o1 4))).bind fun M14 =>
  (some (tm_st M14 o0 5 (M14 o1 5))).bind fun M16 =>
  (some (tm_st M16 o0 6 (M16 o1 6))).bind fun M18 =>
  (some (tm_st M18 o0 7 (M18 o1 7))).bind fun M20 =>
  (some (tm_st M20 o0 8 (M20 o1 8))).bind fun M22 =>
  (some (tm_st M22 o0 9 (M22 o1 9))).bind fun M24 =>
  (some (tm_st M24 o0 10 (M24 o1 10))).bind fun M26 =>
  tm_gd ((M26 o1 11) = 0 ∨ (M26 o1 11) = 1) <|
  (some (tm_st M26 o0 11 (M26 o1 11))).bind fun M29 =>
  some M29
set_option maxHeartbeats 4000000 in
set_option maxRecDepth 100000 in
theorem c_X1_copy (l : Launch) (g : tm_G) (A : Nat → Prop) (L : List Nat) (hD : ∀ M, va_D A (tm_ws g L M)) (hF : ∀ o, tm_all o → o ∈ L) (M : tm_M) (o0 : Nat) (o1 : Nat) (M0 : tm_M) (h : f_X1_copy M o0 o1 = some M0) : Met l yX1_copy wsX1_copy { frames := 0, cells := 0, slots := 0, locals := 0 } (tm_PC g A L M [.ref (g.2.2 + o0), .ref (g.2.2 + o1)]) (tm_QV g A L M0) 0 0 A := by
  refine tm_start (cc := cX1_copy) (nL := 2) (ret := none) (F := tm_all) (plainFor_of_name (by decide)) rfl (Nat.le_of_ble_eq_true rfl) hD hF (fun p e s m args below meth c ls C0 hP hS hl => ?_)
  have hl : lv_has ls 2 [(0, .ref (g.2.2 + o0)), (1, .ref (g.2.2 + o1))] := hl
  have C0 : tm_C p m c cX1_copy 2 s args wsX1_copy RX1 meth none g A L tm_all := C0
  obtain ⟨⟨hx, hb, hml, hown, hts⟩, hr, hlk, hK, hD, hG, hF⟩ := id C0
  unfold f_X1_copy at h
  obtain ⟨g1, h⟩ := tm_gd_some h
  obtain ⟨g2, h⟩ := tm_gd_some h
  refine lv_aload_n hx hb dX1_copy_0 rfl (lv_at hl 0 rfl) ?_
  refine lv_aload_n hx hb dX1_copy_1 rfl (lv_at hl 1 rfl) ?_
  obtain ⟨g3, h⟩ := tm_gd_some h
  refine tm_get (C := RX1) (T := TX1) (N := 12) (v := .ref (g.2.2 + (M o1 0).toNatClampNeg)) hx hb hts nX1_copy_X1 hown hK hP (hF _ (tm_lt g2)) (tm_mkX1 g2 _) rfl 0 (by decide) (hts _ kX1_copy_0) (tm_natv g3) dX1_copy_2 ?_
  obtain ⟨g4, h⟩ := tm_gd_some h
  obtain ⟨M5, e6, h⟩ := tm_bd_some h
  refine tm_put (C := RX1) (T := TX1) (N := 12) (ty := (.object "QuarrelDesk$Couple")) (x := nI ((M o1 0).toNatClampNeg)) hx hb hts nX1_copy_X1 tyX1 tyX1_ok nmX1 hown hK hP hD hS (hF _ (tm_lt g1)) (tm_mkX1 g1) rfl 0 (by decide) (hts _ kX1_copy_0) rfl (by decide +kernel) rfl rfl (Nat.le_of_ble_eq_true rfl) (tm_natP g4) (Option.some.inj e6) dX1_copy_5 (fun H locs hP hS => ?_)
  refine lv_aload_n hx hb dX1_copy_8 rfl (lv_at hl 0 rfl) ?_
  refine lv_aload_n hx hb dX1_copy_9 rfl (lv_at hl 1 rfl) ?_
  refine tm_get (C := RX1) (T := TX1) (N := 12) (v := .int (M5 o1 1)) hx hb hts nX1_copy_X1 hown hK hP (hF _ (tm_lt g2)) (tm_mkX1 g2 _) rfl 1 (by decide) (hts _ kX1_copy_1) rfl dX1_copy_10 ?_
  obtain ⟨M7, e8, h⟩ := tm_bd_some h
  refine tm_put (C := RX1) (T := TX1) (N := 12) (ty := .int) (x := M5 o1 1) hx hb hts nX1_copy_X1 tyX1 tyX1_ok nmX1 hown hK hP hD hS (hF _ (tm_lt g1)) (tm_mkX1 g1) rfl 1 (by decide) (hts _ kX1_copy_1) rfl (by decide +kernel) rfl rfl (Nat.le_of_ble_eq_true rfl) rfl (Option.some.inj e8) dX1_copy_13 (fun H locs hP hS => ?_)
  refine lv_aload_n hx hb dX1_copy_16 rfl (lv_at hl 0 rfl) ?_
  refine lv_aload_n hx hb dX1_copy_17 rfl (lv_at hl 1 rfl) ?_
  refine tm_get (C := RX1) (T := TX1) (N := 12) (v := .int (M7 o1 2)) hx hb hts nX1_copy_X1 hown hK hP (hF _ (tm_lt g2)) (tm_mkX1 g2 _) rfl 2 (by decide) (hts _ kX1_copy_2) rfl dX1_copy_18 ?_
  obtain ⟨M9, e10, h⟩ := tm_bd_some h
  refine tm_put (C := RX1) (T := TX1) (N := 12) (ty := .int) (x := M7 o1 2) hx hb hts nX1_copy_X1 tyX1 tyX1_ok nmX1 hown hK hP hD hS (hF _ (tm_lt g1)) (tm_mkX1 g1) rfl 2 (by decide) (hts _ kX1_copy_2) rfl (by decide +kernel) rfl rfl (Nat.le_of_ble_eq_true rfl) rfl (Option.some.inj e10) dX1_copy_21 (fun H locs hP hS => ?_)
  refine lv_aload_n hx hb dX1_copy_24 rfl (lv_at hl 0 rfl) ?_
  refine lv_aload_n hx hb dX1_copy_25 rfl (lv_at hl 1 rfl) ?_
  refine tm_get (C := RX1) (T := TX1) (N := 12) (v := .int (M9 o1 3)) hx hb hts nX1_copy_X1 hown hK hP (hF _ (tm_lt g2)) (tm_mkX1 g2 _) rfl 3 (by decide) (hts _ kX1_copy_3) rfl dX1_copy_26 ?_
  obtain ⟨M11, e12, h⟩ := tm_bd_some h
  refine tm_put (C := RX1) (T := TX1) (N := 12) (ty := .int) (x := M9 o1 3) hx hb hts nX1_copy_X1 tyX1 tyX1_ok nmX1 hown hK hP hD hS (hF _ (tm_lt g1)) (tm_mkX1 g1) rfl 3 (by decide) (hts _ kX1_copy_3) rfl (by decide +kernel) rfl rfl (Nat.le_of_ble_eq_true rfl) rfl (Option.some.inj e12) dX1_copy_29 (fun H locs hP hS => ?_)
  refine lv_aload_n hx hb dX1_copy_32 rfl (lv_at hl 0 rfl) ?_
  refine lv_aload_n hx hb dX1_copy_33 rfl (lv_at hl 1 rfl) ?_
  refine tm_get (C := RX1) (T := TX1) (N := 12) (v := .int (M11 o1 4)) hx hb hts nX1_copy_X1 hown hK hP (hF _ (tm_lt g2)) (tm_mkX1 g2 _) rfl 4 (by decide) (hts _ kX1_copy_4) rfl dX1_copy_34 ?_
  obtain ⟨g13, h⟩ := tm_gd_some h
  obtain ⟨M14, e15, h⟩ := tm_bd_some h
  refine tm_put (C := RX1) (T := TX1) (N := 12) (ty := .boolean) (x := M11 o1 4) hx hb hts nX1_copy_X1 tyX1 tyX1_ok nmX1 hown hK hP hD hS (hF _ (tm_lt g1)) (tm_mkX1 g1) rfl 4 (by decide) (hts _ kX1_copy_4) rfl (by decide +kernel) (tm_isB_narrow g13) (tm_isB_fits g13) (Nat.le_of_ble_eq_true rfl) rfl (Option.some.inj e15) dX1_copy_37 (fun H locs hP hS => ?_)
  refine lv_aload_n hx hb dX1_copy_40 rfl (lv_at hl 0 rfl) ?_
  refine lv_aload_n hx hb dX1_copy_41 rfl (lv_at hl 1 rfl) ?_
  refine tm_get (C := RX1) (T := TX1) (N := 12) (v := .int (M14 o1 5)) hx hb hts nX1_copy_X1 hown hK hP (hF _ (tm_lt g2)) (tm_mkX1 g2 _) rfl 5 (by decide) (hts _ kX1_copy_5) rfl dX1_copy_42 ?_
  obtain ⟨M16, e17, h⟩ := tm_bd_some h
  refine tm_put (C := RX1) (T := TX1) (N := 12) (ty := .int) (x := M14 o1 5) hx hb hts nX1_copy_X1 tyX1 tyX1_ok nmX1 hown hK hP hD hS (hF _ (tm_lt g1)) (tm_mkX1 g1) rfl 5 (by decide) (hts _ kX1_copy_5) rfl (by decide +kernel) rfl rfl (Nat.le_of_ble_eq_true rfl) rfl (Option.some.inj e17) dX1_copy_45 (fun H locs hP hS => ?_)
  refine lv_aload_n hx hb dX1_copy_48 rfl (lv_at hl 0 rfl) ?_
  refine lv_aload_n hx hb dX1_copy_49 rfl (lv_at hl 1 rfl) ?_
  refine tm_get (C := RX1) (T := TX1) (N := 12) (v := .int (M16 o1 6)) hx hb hts nX1_copy_X1 hown hK hP (hF _ (tm_lt g2)) (tm_mkX1 g2 _) rfl 6 (by decide) (hts _ kX1_copy_6) rfl dX1_copy_50 ?_
  obtain ⟨M18, e19, h⟩ := tm_bd_some h
  refine tm_put (C := RX1) (T := TX1) (N := 12) (ty := .int) (x := M16 o1 6) hx hb hts nX1_copy_X1 tyX1 tyX1_ok nmX1 hown hK hP hD hS (hF _ (tm_lt g1)) (tm_mkX1 g1) rfl 6 (by decide) (hts _ kX1_copy_6) rfl (by decide +kernel) rfl rfl (Nat.le_of_ble_eq_true rfl) rfl (Option.some.inj e19) dX1_copy_53 (fun H locs hP hS => ?_)
  refine lv_aload_n hx hb dX1_copy_56 rfl (lv_at hl 0 rfl) ?_
  refine lv_aload_n hx hb dX1_copy_57 rfl (lv_at hl 1 rfl) ?_
  refine tm_get (C := RX1) (T := TX1) (N := 12) (v := .int (M18 o1 7)) hx hb hts nX1_copy_X1 hown hK hP (hF _ (tm_lt g2)) (tm_mkX1 g2 _) rfl 7 (by decide) (hts _ kX1_copy_7) rfl dX1_copy_58 ?_
  obtain ⟨M20, e21, h⟩ := tm_bd_some h
  refine tm_put (C := RX1) (T := TX1) (N := 12) (ty := .int) (x := M18 o1 7) hx hb hts nX1_copy_X1 tyX1 tyX1_ok nmX1 hown hK hP hD hS (hF _ (tm_lt g1)) (tm_mkX1 g1) rfl 7 (by decide) (hts _ kX1_copy_7) rfl (by decide +kernel) rfl rfl (Nat.le_of_ble_eq_true rfl) rfl (Option.some.inj e21) dX1_copy_61 (fun H locs hP hS => ?_)
  refine lv_aload_n hx hb dX1_copy_64 rfl (lv_at hl 0 rfl) ?_
  refine lv_aload_n hx hb dX1_copy_65 rfl (lv_at hl 1 rfl) ?_
  refine tm_get (C := RX1) (T := TX1) (N := 12) (v := .int (M20 o1 8)) hx hb hts nX1_copy_X1 hown hK hP (hF _ (tm_lt g2)) (tm_mkX1 g2 _) rfl 8 (by decide) (hts _ kX1_copy_8) rfl dX1_copy_66 ?_
  obtain ⟨M22, e23, h⟩ := tm_bd_some h
  refine tm_put (C := RX1) (T := TX1) (N := 12) (ty := .int) (x := M20 o1 8) hx hb hts nX1_copy_X1 tyX1 tyX1_ok nmX1 hown hK hP hD hS (hF _ (tm_lt g1)) (tm_mkX1 g1) rfl 8 (by decide) (hts _ kX1_copy_8) rfl (by decide +kernel) rfl rfl (Nat.le_of_ble_eq_true rfl) rfl (Option.some.inj e23) dX1_copy_69 (fun H locs hP hS => ?_)
  refine lv_aload_n hx hb dX1_copy_72 rfl (lv_at hl 0 rfl) ?_
  refine lv_aload_n hx hb dX1_copy_73 rfl (lv_at hl 1 rfl) ?_
  refine tm_get (C := RX1) (T := TX1) (N := 12) (v := .int (M22 o1 9)) hx hb hts nX1_copy_X1 hown hK hP (hF _ (tm_lt g2)) (tm_mkX1 g2 _) rfl 9 (by decide) (hts _ kX1_copy_9) rfl dX1_copy_74 ?_
  obtain ⟨M24, e25, h⟩ := tm_bd_some h
  refine tm_put (C := RX1) (T := TX1) (N := 12) (ty := .int) (x := M22 o1 9) hx hb hts nX1_copy_X1 tyX1 tyX1_ok nmX1 hown hK hP hD hS (hF _ (tm_lt g1)) (tm_mkX1 g1) rfl 9 (by decide) (hts _ kX1_copy_9) rfl (by decide +kernel) rfl rfl (Nat.le_of_ble_eq_true rfl) rfl (Option.some.inj e25) dX1_copy_77 (fun H locs hP hS => ?_)
  refine lv_aload_n hx hb dX1_copy_80 rfl (lv_at hl 0 rfl) ?_
  refine lv_aload_n hx hb dX1_copy_81 rfl (lv_at hl 1 rfl) ?_
  refine tm_get (C := RX1) (T := TX1) (N := 12) (v := .int (M24 o1 10)) hx hb hts nX1_copy_X1 hown hK hP (hF _ (tm_lt g2)) (tm_mkX1 g2 _) rfl 10 (by decide) (hts _ kX1_copy_10) rfl dX1_copy_82 ?_
  obtain ⟨M26, e27, h⟩ := tm_bd_some h
  refine tm_put (C := RX1) (T := TX1) (N := 12) (ty := .int) (x := M24 o1 10) hx hb hts nX1_copy_X1 tyX1 tyX1_ok nmX1 hown hK hP hD hS (hF _ (tm_lt g1)) (tm_mkX1 g1) rfl 10 (by decide) (hts _ kX1_copy_10) rfl (by decide +kernel) rfl rfl (Nat.le_of_ble_eq_true rfl) rfl (Option.some.inj e27) dX1_copy_85 (fun H locs hP hS => ?_)
  refine lv_aload_n hx hb dX1_copy_88 rfl (lv_at hl 0 rfl) ?_
  refine lv_aload_n hx hb dX1_copy_89 rfl (lv_at hl 1 rfl) ?_
  refine tm_get (C := RX1) (T := TX1) (N := 12) (v := .int (M26 o1 11)) hx hb hts nX1_copy_X1 hown hK hP (hF _ (tm_lt g2)) (tm_mkX1 g2 _) rfl 11 (by decide) (hts _ kX1_copy_11) rfl dX1_copy_90 ?_
  obtain ⟨g28, h⟩ := tm_gd_some h
  obtain ⟨M29, e30, h⟩ := tm_bd_some h
  refine tm_put (C := RX1) (T := TX1) (N := 12) (ty := .boolean) (x := M26 o1 11) hx hb hts nX1_copy_X1 tyX1 tyX1_ok nmX1 hown hK hP hD hS (hF _ (tm_lt g1)) (tm_mkX1 g1) rfl 11 (by decide) (hts _ kX1_copy_11) rfl (by decide +kernel) (tm_isB_narrow g28) (tm_isB_fits g28) (Nat.le_of_ble_eq_true rfl) rfl (Option.some.inj e30) dX1_copy_93 (fun H locs hP hS => ?_)
  exact tm_vret C0 (Option.some.inj h) hP hS dX1_copy_96
/-! X2_number -/
def f_X2_number (o0 : Nat) : Option Int32 :=
  some 0
set_option maxHeartbeats 4000000 in
set_option maxRecDepth 100000 in
theorem c_X2_number (l : Launch) (g : tm_G) (A : Nat → Prop) (L : List Nat) (hD : ∀ M, va_D A (tm_ws g L M)) (hF : ∀ o, tm_all o → o ∈ L) (M : tm_M) (o0 : Nat) (r0 : Int32) (h : f_X2_number o0 = some r0) : Met l yX2_number wsX2_number { frames := 0, cells := 0, slots := 0, locals := 0 } (tm_PC g A L M [.ref (g.2.2 + o0)]) (tm_QI g A L (r0, M)) 0 0 A := by
  refine tm_start (cc := cX2_number) (nL := 1) (ret := (some .int)) (F := tm_all) (plainFor_of_name (by decide)) rfl (Nat.le_of_ble_eq_true rfl) hD hF (fun p e s m args below meth c ls C0 hP hS hl => ?_)
  have hl : lv_has ls 1 [(0, .ref (g.2.2 + o0))] := hl
  have C0 : tm_C p m c cX2_number 1 s args wsX2_number RX2 meth (some .int) g A L tm_all := C0
  obtain ⟨⟨hx, hb, hml, hown, hts⟩, hr, hlk, hK, hD, hG, hF⟩ := id C0
  unfold f_X2_number at h
  refine lv_iconst (v := 0) hx hb dX2_number_0 (by decide) ?_
  exact tm_iret C0 (by rw [Option.some.inj h]) hP hS dX2_number_1
/-! X5_number -/
def f_X5_number (o0 : Nat) : Option Int32 :=
  some 2
set_option maxHeartbeats 4000000 in
set_option maxRecDepth 100000 in
theorem c_X5_number (l : Launch) (g : tm_G) (A : Nat → Prop) (L : List Nat) (hD : ∀ M, va_D A (tm_ws g L M)) (hF : ∀ o, tm_all o → o ∈ L) (M : tm_M) (o0 : Nat) (r0 : Int32) (h : f_X5_number o0 = some r0) : Met l yX5_number wsX5_number { frames := 0, cells := 0, slots := 0, locals := 0 } (tm_PC g A L M [.ref (g.2.2 + o0)]) (tm_QI g A L (r0, M)) 0 0 A := by
  refine tm_start (cc := cX5_number) (nL := 1) (ret := (some .int)) (F := tm_all) (plainFor_of_name (by decide)) rfl (Nat.le_of_ble_eq_true rfl) hD hF (fun p e s m args below meth c ls C0 hP hS hl => ?_)
  have hl : lv_has ls 1 [(0, .ref (g.2.2 + o0))] := hl
  have C0 : tm_C p m c cX5_number 1 s args wsX5_number RX5 meth (some .int) g A L tm_all := C0
  obtain ⟨⟨hx, hb, hml, hown, hts⟩, hr, hlk, hK, hD, hG, hF⟩ := id C0
  unfold f_X5_number at h
  refine lv_iconst (v := 2) hx hb dX5_number_0 (by decide) ?_
  exact tm_iret C0 (by rw [Option.some.inj h]) hP hS dX5_number_1
/-! X4_number -/
def f_X4_number (o0 : Nat) : Option Int32 :=
  some 3
set_option maxHeartbeats 4000000 in
set_option maxRecDepth 100000 in
theorem c_X4_number (l : Launch) (g : tm_G) (A : Nat → Prop) (L : List Nat) (hD : ∀ M, va_D A (tm_ws g L M)) (hF : ∀ o, tm_all o → o ∈ L) (M : tm_M) (o0 : Nat) (r0 : Int32) (h : f_X4_number o0 = some r0) : Met l yX4_number wsX4_number { frames := 0, cells := 0, slots := 0, locals := 0 } (tm_PC g A L M [.ref (g.2.2 + o0)]) (tm_QI g A L (r0, M)) 0 0 A := by
  refine tm_start (cc := cX4_number) (nL := 1) (ret := (some .int)) (F := tm_all) (plainFor_of_name (by decide)) rfl (Nat.le_of_ble_eq_true rfl) hD hF (fun p e s m args below meth c ls C0 hP hS hl => ?_)
  have hl : lv_has ls 1 [(0, .ref (g.2.2 + o0))] := hl
  have C0 : tm_C p m c cX4_number 1 s args wsX4_number RX4 meth (some .int) g A L tm_all := C0
  obtain ⟨⟨hx, hb, hml, hown, hts⟩, hr, hlk, hK, hD, hG, hF⟩ := id C0
  unfold f_X4_number at h
  refine lv_iconst (v := 3) hx hb dX4_number_0 (by decide) ?_
  exact tm_iret C0 (by rw [Option.some.inj h]) hP hS dX4_number_1
/-! X3_number -/
def f_X3_number (o0 : Nat) : Option Int32 :=
  some 1
set_option maxHeartbeats 4000000 in
set_option maxRecDepth 100000 in
theorem c_X3_number (l : Launch) (g : tm_G) (A : Nat → Prop) (L : List Nat) (hD : ∀ M, va_D A (tm_ws g L M)) (hF : ∀ o, tm_all o → o ∈ L) (M : tm_M) (o0 : Nat) (r0 : Int32) (h : f_X3_number o0 = some r0) : Met l yX3_number wsX3_number { frames := 0, cells := 0, slots := 0, locals := 0 } (tm_PC g A L M [.ref (g.2.2 + o0)]) (tm_QI g A L (r0, M)) 0 0 A := by
  refine tm_start (cc := cX3_number) (nL := 1) (ret := (some .int)) (F := tm_all) (plainFor_of_name (by decide)) rfl (Nat.le_of_ble_eq_true rfl) hD hF (fun p e s m args below meth c ls C0 hP hS hl => ?_)
  have hl : lv_has ls 1 [(0, .ref (g.2.2 + o0))] := hl
  have C0 : tm_C p m c cX3_number 1 s args wsX3_number RX3 meth (some .int) g A L tm_all := C0
  obtain ⟨⟨hx, hb, hml, hown, hts⟩, hr, hlk, hK, hD, hG, hF⟩ := id C0
  unfold f_X3_number at h
  refine lv_iconst (v := 1) hx hb dX3_number_0 (by decide) ?_
  exact tm_iret C0 (by rw [Option.some.inj h]) hP hS dX3_number_1
/-! X1_part -/
theorem nX1_part_X1 : ∀ w ∈ wsX10, w ∈ wsX1_part := by decide +kernel
theorem kX1_part_0 : Cond.fieldLink RX1 15 "QuarrelDesk$Life" "nature" "LQuarrelDesk$Couple;" ∈ wsX1_part := by decide +kernel
theorem kX1_part_1 : Cond.fieldLink RX1 19 "QuarrelDesk$Life" "temper" "I" ∈ wsX1_part := by decide +kernel
theorem kX1_part_2 : Cond.fieldLink RX1 23 "QuarrelDesk$Life" "strain" "I" ∈ wsX1_part := by decide +kernel
theorem kX1_part_3 : Cond.fieldLink RX1 26 "QuarrelDesk$Life" "silent" "I" ∈ wsX1_part := by decide +kernel
theorem kX1_part_4 : Cond.fieldLink RX1 29 "QuarrelDesk$Life" "isVoid" "Z" ∈ wsX1_part := by decide +kernel
theorem kX1_part_5 : Cond.fieldLink RX1 33 "QuarrelDesk$Life" "breaks" "I" ∈ wsX1_part := by decide +kernel
theorem kX1_part_6 : Cond.fieldLink RX1 36 "QuarrelDesk$Life" "tiffs" "I" ∈ wsX1_part := by decide +kernel
theorem kX1_part_7 : Cond.fieldLink RX1 42 "QuarrelDesk$Life" "paid" "I" ∈ wsX1_part := by decide +kernel
theorem kX1_part_8 : Cond.fieldLink RX1 45 "QuarrelDesk$Life" "claimed" "I" ∈ wsX1_part := by decide +kernel
theorem kX1_part_9 : Cond.fieldLink RX1 48 "QuarrelDesk$Life" "lastBreak" "I" ∈ wsX1_part := by decide +kernel
def f_X1_part (M : tm_M) (o0 : Nat) (p1 : Int32) : Option Int32 :=
  tm_gd (tm_shp o0 = 0) <|
  if p1 = 0 then
    tm_gd (¬ M o0 0 = 0) <|
    if tm_shp ((M o0 0).toNatClampNeg) = 1 then
      (f_X2_number ((M o0 0).toNatClampNeg)).bind fun r5 =>
      some r5
    else
      if tm_shp ((M o0 0).toNatClampNeg) = 2 then
        (f_X3_number ((M o0 0).toNatClampNeg)).bind fun r8 =>
        some r8
      else
        if tm_shp ((M o0 0).toNatClampNeg) = 3 then
          (f_X4_number ((M o0 0).toNatClampNeg)).bind fun r11 =>
          some r11
        else
          if tm_shp ((M o0 0).toNatClampNeg) = 4 then
            (f_X5_number ((M o0 0).toNatClampNeg)).bind fun r14 =>
            some r14
          else
            none
  else
    if p1 = 1 then
      some (M o0 1)
    else
      if p1 = 2 then
        some (M o0 2)
      else
        if p1 = 3 then
          some (M o0 3)
        else
          if p1 = 4 then
            if (M o0 4) = 0 then
              some 0
            else
              some 1
          else
            if p1 = 5 then
              some (M o0 5)
            else
              if p1 = 6 then
                some (M o0 6)
              else
                if p1 = 7 then
                  some (M o0 8)
                else
                  if p1 = 8 then
                    some (M o0 9)
                  else
                    if p1 = 9 then
                      some (M o0 10)
                    else
                      some (-3)
set_option maxHeartbeats 4000000 in
set_option maxRecDepth 100000 in
theorem c_X1_part (l : Launch) (g : tm_G) (A : Nat → Prop) (L : List Nat) (hD : ∀ M, va_D A (tm_ws g L M)) (hF : ∀ o, tm_all o → o ∈ L) (M : tm_M) (o0 : Nat) (p1 : Int32) (r0 : Int32) (h : f_X1_part M o0 p1 = some r0) : Met l yX1_part wsX1_part { frames := 1, cells := 0, slots := 0, locals := 20 } (tm_PC g A L M [.ref (g.2.2 + o0), .int p1]) (tm_QI g A L (r0, M)) 0 0 A := by
  refine tm_start (cc := cX1_part) (nL := 2) (ret := (some .int)) (F := tm_all) (plainFor_of_name (by decide)) rfl (Nat.le_of_ble_eq_true rfl) hD hF (fun p e s m args below meth c ls C0 hP hS hl => ?_)
  have hl : lv_has ls 2 [(0, .ref (g.2.2 + o0)), (1, .int p1)] := hl
  have C0 : tm_C p m c cX1_part 2 s args wsX1_part RX1 meth (some .int) g A L tm_all := C0
  obtain ⟨⟨hx, hb, hml, hown, hts⟩, hr, hlk, hK, hD, hG, hF⟩ := id C0
  unfold f_X1_part at h
  obtain ⟨g1, h⟩ := tm_gd_some h
  refine lv_iload_n hx hb dX1_part_0 rfl (lv_at hl 1 rfl) ?_
  by_cases c2 : p1 = 0
  · rw [if_pos c2] at h
    refine lv_tableIn (tgt := 56) (off := 55) hx hb dX1_part_1 (by rw [c2]; decide) (by rw [c2]; decide) (by rw [c2]; decide) (by decide) ?_
    refine lv_aload_n hx hb dX1_part_56 rfl (lv_at hl 0 rfl) ?_
    obtain ⟨g3, h⟩ := tm_gd_some h
    refine tm_get (C := RX1) (T := TX1) (N := 12) (v := .ref (g.2.2 + (M o0 0).toNatClampNeg)) hx hb hts nX1_part_X1 hown hK hP (hF _ (tm_lt g1)) (tm_mkX1 g1 _) rfl 0 (by decide) (hts _ kX1_part_0) (tm_natv g3) dX1_part_57 ?_
    by_cases s4 : tm_shp ((M o0 0).toNatClampNeg) = 1
    · rw [if_pos s4] at h
      obtain ⟨r5, e6, h⟩ := tm_bd_some h
      refine tm_backI (r0 := r5) (M0 := M) (fun _ q => q) (tm_callU (As := []) (rest := []) ⟨hx, hb, hml, hown, hts⟩ hK hG hP hS (c_X2_number l g A L hD hF M ((M o0 0).toNatClampNeg) r5 e6) (va_cwA 0 hts gX1_part_X2_number_u54X2 rfl rfl rfl (hG.2.1 _ (List.mem_of_getElem? (i := 0) rfl)) (by decide +kernel) ⟨Nat.le_of_ble_eq_true rfl, Nat.le_of_ble_eq_true rfl⟩) (tm_recv hK hP (hF _ (tm_lt s4)) (ci := 1) rfl (tm_mkX2 s4 _)) rfl hl.1 (lv_room (Nat.le_of_ble_eq_true rfl)) dX1_part_60 ⟨Nat.zero_le _, Nat.zero_le _⟩) hS (fun H locs hP hS => ?_)
      exact tm_iret C0 (by rw [Option.some.inj h]) hP hS dX1_part_63
    · rw [if_neg s4] at h
      by_cases s7 : tm_shp ((M o0 0).toNatClampNeg) = 2
      · rw [if_pos s7] at h
        obtain ⟨r8, e9, h⟩ := tm_bd_some h
        refine tm_backI (r0 := r8) (M0 := M) (fun _ q => q) (tm_callU (As := []) (rest := []) ⟨hx, hb, hml, hown, hts⟩ hK hG hP hS (c_X3_number l g A L hD hF M ((M o0 0).toNatClampNeg) r8 e9) (va_cwA 0 hts gX1_part_X3_number_u54X3 rfl rfl rfl (hG.2.1 _ (List.mem_of_getElem? (i := 0) rfl)) (by decide +kernel) ⟨Nat.le_of_ble_eq_true rfl, Nat.le_of_ble_eq_true rfl⟩) (tm_recv hK hP (hF _ (tm_lt s7)) (ci := 2) rfl (tm_mkX3 s7 _)) rfl hl.1 (lv_room (Nat.le_of_ble_eq_true rfl)) dX1_part_60 ⟨Nat.zero_le _, Nat.zero_le _⟩) hS (fun H locs hP hS => ?_)
        exact tm_iret C0 (by rw [Option.some.inj h]) hP hS dX1_part_63
      · rw [if_neg s7] at h
        by_cases s10 : tm_shp ((M o0 0).toNatClampNeg) = 3
        · rw [if_pos s10] at h
          obtain ⟨r11, e12, h⟩ := tm_bd_some h
          refine tm_backI (r0 := r11) (M0 := M) (fun _ q => q) (tm_callU (As := []) (rest := []) ⟨hx, hb, hml, hown, hts⟩ hK hG hP hS (c_X4_number l g A L hD hF M ((M o0 0).toNatClampNeg) r11 e12) (va_cwA 0 hts gX1_part_X4_number_u54X4 rfl rfl rfl (hG.2.1 _ (List.mem_of_getElem? (i := 0) rfl)) (by decide +kernel) ⟨Nat.le_of_ble_eq_true rfl, Nat.le_of_ble_eq_true rfl⟩) (tm_recv hK hP (hF _ (tm_lt s10)) (ci := 3) rfl (tm_mkX4 s10 _)) rfl hl.1 (lv_room (Nat.le_of_ble_eq_true rfl)) dX1_part_60 ⟨Nat.zero_le _, Nat.zero_le _⟩) hS (fun H locs hP hS => ?_)
          exact tm_iret C0 (by rw [Option.some.inj h]) hP hS dX1_part_63
        · rw [if_neg s10] at h
          by_cases s13 : tm_shp ((M o0 0).toNatClampNeg) = 4
          · rw [if_pos s13] at h
            obtain ⟨r14, e15, h⟩ := tm_bd_some h
            refine tm_backI (r0 := r14) (M0 := M) (fun _ q => q) (tm_callU (As := []) (rest := []) ⟨hx, hb, hml, hown, hts⟩ hK hG hP hS (c_X5_number l g A L hD hF M ((M o0 0).toNatClampNeg) r14 e15) (va_cwA 0 hts gX1_part_X5_number_u54X5 rfl rfl rfl (hG.2.1 _ (List.mem_of_getElem? (i := 0) rfl)) (by decide +kernel) ⟨Nat.le_of_ble_eq_true rfl, Nat.le_of_ble_eq_true rfl⟩) (tm_recv hK hP (hF _ (tm_lt s13)) (ci := 4) rfl (tm_mkX5 s13 _)) rfl hl.1 (lv_room (Nat.le_of_ble_eq_true rfl)) dX1_part_60 ⟨Nat.zero_le _, Nat.zero_le _⟩) hS (fun H locs hP hS => ?_)
            exact tm_iret C0 (by rw [Option.some.inj h]) hP hS dX1_part_63
          · rw [if_neg s13] at h
            cases h
  · rw [if_neg c2] at h
    by_cases c16 : p1 = 1
    · rw [if_pos c16] at h
      refine lv_tableIn (tgt := 64) (off := 63) hx hb dX1_part_1 (by rw [c16]; decide) (by rw [c16]; decide) (by rw [c16]; decide) (by decide) ?_
      refine lv_aload_n hx hb dX1_part_64 rfl (lv_at hl 0 rfl) ?_
      refine tm_get (C := RX1) (T := TX1) (N := 12) (v := .int (M o0 1)) hx hb hts nX1_part_X1 hown hK hP (hF _ (tm_lt g1)) (tm_mkX1 g1 _) rfl 1 (by decide) (hts _ kX1_part_1) rfl dX1_part_65 ?_
      exact tm_iret C0 (by rw [Option.some.inj h]) hP hS dX1_part_68
    · rw [if_neg c16] at h
      by_cases c17 : p1 = 2
      · rw [if_pos c17] at h
        refine lv_tableIn (tgt := 69) (off := 68) hx hb dX1_part_1 (by rw [c17]; decide) (by rw [c17]; decide) (by rw [c17]; decide) (by decide) ?_
        refine lv_aload_n hx hb dX1_part_69 rfl (lv_at hl 0 rfl) ?_
        refine tm_get (C := RX1) (T := TX1) (N := 12) (v := .int (M o0 2)) hx hb hts nX1_part_X1 hown hK hP (hF _ (tm_lt g1)) (tm_mkX1 g1 _) rfl 2 (by decide) (hts _ kX1_part_2) rfl dX1_part_70 ?_
        exact tm_iret C0 (by rw [Option.some.inj h]) hP hS dX1_part_73
      · rw [if_neg c17] at h
        by_cases c18 : p1 = 3
        · rw [if_pos c18] at h
          refine lv_tableIn (tgt := 74) (off := 73) hx hb dX1_part_1 (by rw [c18]; decide) (by rw [c18]; decide) (by rw [c18]; decide) (by decide) ?_
          refine lv_aload_n hx hb dX1_part_74 rfl (lv_at hl 0 rfl) ?_
          refine tm_get (C := RX1) (T := TX1) (N := 12) (v := .int (M o0 3)) hx hb hts nX1_part_X1 hown hK hP (hF _ (tm_lt g1)) (tm_mkX1 g1 _) rfl 3 (by decide) (hts _ kX1_part_3) rfl dX1_part_75 ?_
          exact tm_iret C0 (by rw [Option.some.inj h]) hP hS dX1_part_78
        · rw [if_neg c18] at h
          by_cases c19 : p1 = 4
          · rw [if_pos c19] at h
            refine lv_tableIn (tgt := 79) (off := 78) hx hb dX1_part_1 (by rw [c19]; decide) (by rw [c19]; decide) (by rw [c19]; decide) (by decide) ?_
            refine lv_aload_n hx hb dX1_part_79 rfl (lv_at hl 0 rfl) ?_
            refine tm_get (C := RX1) (T := TX1) (N := 12) (v := .int (M o0 4)) hx hb hts nX1_part_X1 hown hK hP (hF _ (tm_lt g1)) (tm_mkX1 g1 _) rfl 4 (by decide) (hts _ kX1_part_4) rfl dX1_part_80 ?_
            refine lv_if_eq (tgt := 90) hx hb dX1_part_83 (by decide) (fun c20 => ?_) (fun c20 => ?_)
            · rw [if_pos c20] at h
              refine lv_iconst (v := 0) hx hb dX1_part_90 (by decide) ?_
              exact tm_iret C0 (by rw [Option.some.inj h]) hP hS dX1_part_91
            · rw [if_neg c20] at h
              refine lv_iconst (v := 1) hx hb dX1_part_86 (by decide) ?_
              refine lv_goto (tgt := 91) hx hb dX1_part_87 (by decide) ?_
              exact tm_iret C0 (by rw [Option.some.inj h]) hP hS dX1_part_91
          · rw [if_neg c19] at h
            by_cases c21 : p1 = 5
            · rw [if_pos c21] at h
              refine lv_tableIn (tgt := 92) (off := 91) hx hb dX1_part_1 (by rw [c21]; decide) (by rw [c21]; decide) (by rw [c21]; decide) (by decide) ?_
              refine lv_aload_n hx hb dX1_part_92 rfl (lv_at hl 0 rfl) ?_
              refine tm_get (C := RX1) (T := TX1) (N := 12) (v := .int (M o0 5)) hx hb hts nX1_part_X1 hown hK hP (hF _ (tm_lt g1)) (tm_mkX1 g1 _) rfl 5 (by decide) (hts _ kX1_part_5) rfl dX1_part_93 ?_
              exact tm_iret C0 (by rw [Option.some.inj h]) hP hS dX1_part_96
            · rw [if_neg c21] at h
              by_cases c22 : p1 = 6
              · rw [if_pos c22] at h
                refine lv_tableIn (tgt := 97) (off := 96) hx hb dX1_part_1 (by rw [c22]; decide) (by rw [c22]; decide) (by rw [c22]; decide) (by decide) ?_
                refine lv_aload_n hx hb dX1_part_97 rfl (lv_at hl 0 rfl) ?_
                refine tm_get (C := RX1) (T := TX1) (N := 12) (v := .int (M o0 6)) hx hb hts nX1_part_X1 hown hK hP (hF _ (tm_lt g1)) (tm_mkX1 g1 _) rfl 6 (by decide) (hts _ kX1_part_6) rfl dX1_part_98 ?_
                exact tm_iret C0 (by rw [Option.some.inj h]) hP hS dX1_part_101
              · rw [if_neg c22] at h
                by_cases c23 : p1 = 7
                · rw [if_pos c23] at h
                  refine lv_tableIn (tgt := 102) (off := 101) hx hb dX1_part_1 (by rw [c23]; decide) (by rw [c23]; decide) (by rw [c23]; decide) (by decide) ?_
                  refine lv_aload_n hx hb dX1_part_102 rfl (lv_at hl 0 rfl) ?_
                  refine tm_get (C := RX1) (T := TX1) (N := 12) (v := .int (M o0 8)) hx hb hts nX1_part_X1 hown hK hP (hF _ (tm_lt g1)) (tm_mkX1 g1 _) rfl 8 (by decide) (hts _ kX1_part_7) rfl dX1_part_103 ?_
                  exact tm_iret C0 (by rw [Option.some.inj h]) hP hS dX1_part_106
                · rw [if_neg c23] at h
                  by_cases c24 : p1 = 8
                  · rw [if_pos c24] at h
                    refine lv_tableIn (tgt := 107) (off := 106) hx hb dX1_part_1 (by rw [c24]; decide) (by rw [c24]; decide) (by rw [c24]; decide) (by decide) ?_
                    refine lv_aload_n hx hb dX1_part_107 rfl (lv_at hl 0 rfl) ?_
                    refine tm_get (C := RX1) (T := TX1) (N := 12) (v := .int (M o0 9)) hx hb hts nX1_part_X1 hown hK hP (hF _ (tm_lt g1)) (tm_mkX1 g1 _) rfl 9 (by decide) (hts _ kX1_part_8) rfl dX1_part_108 ?_
                    exact tm_iret C0 (by rw [Option.some.inj h]) hP hS dX1_part_111
                  · rw [if_neg c24] at h
                    by_cases c25 : p1 = 9
                    · rw [if_pos c25] at h
                      refine lv_tableIn (tgt := 112) (off := 111) hx hb dX1_part_1 (by rw [c25]; decide) (by rw [c25]; decide) (by rw [c25]; decide) (by decide) ?_
                      refine lv_aload_n hx hb dX1_part_112 rfl (lv_at hl 0 rfl) ?_
                      refine tm_get (C := RX1) (T := TX1) (N := 12) (v := .int (M o0 10)) hx hb hts nX1_part_X1 hown hK hP (hF _ (tm_lt g1)) (tm_mkX1 g1 _) rfl 10 (by decide) (hts _ kX1_part_9) rfl dX1_part_113 ?_
                      exact tm_iret C0 (by rw [Option.some.inj h]) hP hS dX1_part_116
                    · rw [if_neg c25] at h
                      have c2t := lv_neT (a := 0) c2 (by decide)
                      have c16t := lv_neT (a := 1) c16 (by decide)
                      have c17t := lv_neT (a := 2) c17 (by decide)
                      have c18t := lv_neT (a := 3) c18 (by decide)
                      have c19t := lv_neT (a := 4) c19 (by decide)
                      have c21t := lv_neT (a := 5) c21 (by decide)
                      have c22t := lv_neT (a := 6) c22 (by decide)
                      have c23t := lv_neT (a := 7) c23 (by decide)
                      have c24t := lv_neT (a := 8) c24 (by decide)
                      have c25t := lv_neT (a := 9) c25 (by decide)
                      refine lv_tableOut (tgt := 117) hx hb dX1_part_1 (by omega) (by decide) ?_
                      refine lv_bipush (v := (-3)) hx hb dX1_part_117 (by decide) ?_
                      exact tm_iret C0 (by rw [Option.some.inj h]) hP hS dX1_part_119
/-! X5_isCovered -/
def f_X5_isCovered (o0 : Nat) (p1 : Int32) : Option Int32 :=
  (f_X0_isSunday p1).bind fun r1 =>
  tm_gd (r1 = 0 ∨ r1 = 1) <|
  some r1
set_option maxHeartbeats 4000000 in
set_option maxRecDepth 100000 in
theorem c_X5_isCovered (l : Launch) (g : tm_G) (A : Nat → Prop) (L : List Nat) (hD : ∀ M, va_D A (tm_ws g L M)) (hF : ∀ o, tm_all o → o ∈ L) (M : tm_M) (o0 : Nat) (p1 : Int32) (r0 : Int32) (h : f_X5_isCovered o0 p1 = some r0) : Met l yX5_isCovered wsX5_isCovered { frames := 1, cells := 0, slots := 0, locals := 20 } (tm_PC g A L M [.ref (g.2.2 + o0), .int p1]) (tm_QI g A L (r0, M)) 0 0 A := by
  refine tm_start (cc := cX5_isCovered) (nL := 2) (ret := (some .boolean)) (F := tm_all) (plainFor_of_name (by decide)) rfl (Nat.le_of_ble_eq_true rfl) hD hF (fun p e s m args below meth c ls C0 hP hS hl => ?_)
  have hl : lv_has ls 2 [(0, .ref (g.2.2 + o0)), (1, .int p1)] := hl
  have C0 : tm_C p m c cX5_isCovered 2 s args wsX5_isCovered RX5 meth (some .boolean) g A L tm_all := C0
  obtain ⟨⟨hx, hb, hml, hown, hts⟩, hr, hlk, hK, hD, hG, hF⟩ := id C0
  unfold f_X5_isCovered at h
  refine lv_iload_n hx hb dX5_isCovered_0 rfl (lv_at hl 1 rfl) ?_
  obtain ⟨r1, e2, h⟩ := tm_bd_some h
  refine tm_backI (r0 := r1) (M0 := M) (fun _ q => q) (tm_callSUp (As := [.int p1]) (rest := []) ⟨hx, hb, hml, hown, hts⟩ hK hG hP hS (c_X0_isSunday l g A L hD hF M p1 r1 e2) ⟨Nat.le_of_ble_eq_true rfl, Nat.le_of_ble_eq_true rfl⟩ rfl hl.1 (lv_room (Nat.le_of_ble_eq_true rfl)) dX5_isCovered_1 ⟨Nat.zero_le _, Nat.zero_le _⟩) hS (fun H locs hP hS => ?_)
  obtain ⟨g3, h⟩ := tm_gd_some h
  exact tm_zret C0 g3 (by rw [Option.some.inj h]) hP hS dX5_isCovered_4
/-! X1_breakUp -/
theorem nX1_breakUp_X1 : ∀ w ∈ wsX10, w ∈ wsX1_breakUp := by decide +kernel
theorem kX1_breakUp_0 : Cond.fieldLink RX1 29 "QuarrelDesk$Life" "isVoid" "Z" ∈ wsX1_breakUp := by decide +kernel
theorem kX1_breakUp_1 : Cond.fieldLink RX1 33 "QuarrelDesk$Life" "breaks" "I" ∈ wsX1_breakUp := by decide +kernel
theorem kX1_breakUp_2 : Cond.fieldLink RX1 48 "QuarrelDesk$Life" "lastBreak" "I" ∈ wsX1_breakUp := by decide +kernel
theorem kX1_breakUp_3 : Cond.fieldLink RX1 23 "QuarrelDesk$Life" "strain" "I" ∈ wsX1_breakUp := by decide +kernel
theorem kX1_breakUp_4 : Cond.fieldLink RX1 26 "QuarrelDesk$Life" "silent" "I" ∈ wsX1_breakUp := by decide +kernel
theorem kX1_breakUp_5 : Cond.fieldLink RX1 15 "QuarrelDesk$Life" "nature" "LQuarrelDesk$Couple;" ∈ wsX1_breakUp := by decide +kernel
theorem kX1_breakUp_6 : Cond.fieldLink RX1 45 "QuarrelDesk$Life" "claimed" "I" ∈ wsX1_breakUp := by decide +kernel
theorem nX1_breakUp_X6 : ∀ w ∈ wsX60, w ∈ wsX1_breakUp := by decide +kernel
theorem kX1_breakUp_7 : Cond.fieldLink RX1 90 "QuarrelDesk$Terms" "cover" "I" ∈ wsX1_breakUp := by decide +kernel
theorem kX1_breakUp_8 : Cond.methodLink RX1 64 Lib.Math.min.name ∈ wsX1_breakUp := by decide +kernel
theorem kX1_breakUp_9 : Cond.static Lib.Math.min.name ∈ wsX1_breakUp := by decide +kernel
theorem kX1_breakUp_10 : Cond.initialized "java/lang/Math" ∈ wsX1_breakUp := by decide +kernel
theorem kX1_breakUp_11 : Cond.code Lib.Math.min.name Lib.Math.min.code 2 (some .int) ∈ wsX1_breakUp := by decide +kernel
theorem kX1_breakUp_12 : Cond.fieldLink RX1 93 "QuarrelDesk$Terms" "excess" "I" ∈ wsX1_breakUp := by decide +kernel
theorem kX1_breakUp_13 : Cond.methodLink RX1 96 Lib.Math.max.name ∈ wsX1_breakUp := by decide +kernel
theorem kX1_breakUp_14 : Cond.static Lib.Math.max.name ∈ wsX1_breakUp := by decide +kernel
theorem kX1_breakUp_15 : Cond.code Lib.Math.max.name Lib.Math.max.code 2 (some .int) ∈ wsX1_breakUp := by decide +kernel
theorem kX1_breakUp_16 : Cond.code yX0_isCovered cX0_isCovered 2 (some .boolean) ∈ wsX1_breakUp := by decide +kernel
def f_X1_breakUp (M : tm_M) (o0 : Nat) (p1 : Int32) (o2 : Nat) : Option tm_M :=
  tm_gd (tm_shp o0 = 0) <|
  tm_gd (tm_shp o2 = 5) <|
  if (M o0 4) = 0 then
    tm_gd (¬ M o0 0 = 0) <|
    if tm_shp ((M o0 0).toNatClampNeg) = 1 then
      (f_X0_isCovered ((M o0 0).toNatClampNeg) p1).bind fun r14 =>
      if r14 = 0 then
        (some (tm_st M o0 5 ((M o0 5) + 1))).bind fun M17 =>
        (some (tm_st M17 o0 10 p1)).bind fun M19 =>
        (some (tm_st M19 o0 2 0)).bind fun M21 =>
        (some (tm_st M21 o0 3 0)).bind fun M23 =>
        some M23
      else
        (some (tm_st M o0 9 ((M o0 9) + (if 0 < ((if (M o2 1) < (M o0 2) then (M o2 1) else (M o0 2)) - (M o2 0)) then ((if (M o2 1) < (M o0 2) then (M o2 1) else (M o0 2)) - (M o2 0)) else 0)))).bind fun M25 =>
        (some (tm_st M25 o0 5 ((M25 o0 5) + 1))).bind fun M27 =>
        (some (tm_st M27 o0 10 p1)).bind fun M29 =>
        (some (tm_st M29 o0 2 0)).bind fun M31 =>
        (some (tm_st M31 o0 3 0)).bind fun M33 =>
        some M33
    else
      if tm_shp ((M o0 0).toNatClampNeg) = 2 then
        (f_X0_isCovered ((M o0 0).toNatClampNeg) p1).bind fun r36 =>
        if r36 = 0 then
          (some (tm_st M o0 5 ((M o0 5) + 1))).bind fun M39 =>
          (some (tm_st M39 o0 10 p1)).bind fun M41 =>
          (some (tm_st M41 o0 2 0)).bind fun M43 =>
          (some (tm_st M43 o0 3 0)).bind fun M45 =>
          some M45
        else
          (some (tm_st M o0 9 ((M o0 9) + (if 0 < ((if (M o2 1) < (M o0 2) then (M o2 1) else (M o0 2)) - (M o2 0)) then ((if (M o2 1) < (M o0 2) then (M o2 1) else (M o0 2)) - (M o2 0)) else 0)))).bind fun M47 =>
          (some (tm_st M47 o0 5 ((M47 o0 5) + 1))).bind fun M49 =>
          (some (tm_st M49 o0 10 p1)).bind fun M51 =>
          (some (tm_st M51 o0 2 0)).bind fun M53 =>
          (some (tm_st M53 o0 3 0)).bind fun M55 =>
          some M55
      else
        if tm_shp ((M o0 0).toNatClampNeg) = 3 then
          (f_X0_isCovered ((M o0 0).toNatClampNeg) p1).bind fun r58 =>
          if r58 = 0 then
            (some (tm_st M o0 5 ((M o0 5) + 1))).bind fun M61 =>
            (some (tm_st M61 o0 10 p1)).bind fun M63 =>
            (some (tm_st M63 o0 2 0)).bind fun M65 =>
            (some (tm_st M65 o0 3 0)).bind fun M67 =>
            some M67
          else
            (some (tm_st M o0 9 ((M o0 9) + (if 0 < ((if (M o2 1) < (M o0 2) then (M o2 1) else (M o0 2)) - (M o2 0)) then ((if (M o2 1) < (M o0 2) then (M o2 1) else (M o0 2)) - (M o2 0)) else 0)))).bind fun M69 =>
            (some (tm_st M69 o0 5 ((M69 o0 5) + 1))).bind fun M71 =>
            (some (tm_st M71 o0 10 p1)).bind fun M73 =>
            (some (tm_st M73 o0 2 0)).bind fun M75 =>
            (some (tm_st M75 o0 3 0)).bind fun M77 =>
            some M77
        else
          if tm_shp ((M o0 0).toNatClampNeg) = 4 then
            (f_X5_isCovered ((M o0 0).toNatClampNeg) p1).bind fun r80 =>
            if r80 = 0 then
              (some (tm_st M o0 5 ((M o0 5) + 1))).bind fun M83 =>
              (some (tm_st M83 o0 10 p1)).bind fun M85 =>
              (some (tm_st M85 o0 2 0)).bind fun M87 =>
              (some (tm_st M87 o0 3 0)).bind fun M89 =>
              some M89
            else
              (some (tm_st M o0 9 ((M o0 9) + (if 0 < ((if (M o2 1) < (M o0 2) then (M o2 1) else (M o0 2)) - (M o2 0)) then ((if (M o2 1) < (M o0 2) then (M o2 1) else (M o0 2)) - (M o2 0)) else 0)))).bind fun M91 =>
              (some (tm_st M91 o0 5 ((M91 o0 5) + 1))).bind fun M93 =>
              (some (tm_st M93 o0 10 p1)).bind fun M95 =>
              (some (tm_st M95 o0 2 0)).bind fun M97 =>
              (some (tm_st M97 o0 3 0)).bind fun M99 =>
              some M99
          else
            none
  else
    (some (tm_st M o0 5 ((M o0 5) + 1))).bind fun M4 =>
    (some (tm_st M4 o0 10 p1)).bind fun M6 =>
    (some (tm_st M6 o0 2 0)).bind fun M8 =>
    (some (tm_st M8 o0 3 0)).bind fun M10 =>
    some M10
set_option maxHeartbeats 4000000 in
set_option maxRecDepth 100000 in
theorem c_X1_breakUp (l : Launch) (g : tm_G) (A : Nat → Prop) (L : List Nat) (hD : ∀ M, va_D A (tm_ws g L M)) (hF : ∀ o, tm_all o → o ∈ L) (M : tm_M) (o0 : Nat) (p1 : Int32) (o2 : Nat) (M0 : tm_M) (h : f_X1_breakUp M o0 p1 o2 = some M0) : Met l yX1_breakUp wsX1_breakUp { frames := 2, cells := 0, slots := 0, locals := 41 } (tm_PC g A L M [.ref (g.2.2 + o0), .int p1, .ref (g.2.2 + o2)]) (tm_QV g A L M0) 0 0 A := by
  refine tm_start (cc := cX1_breakUp) (nL := 3) (ret := none) (F := tm_all) (plainFor_of_name (by decide)) rfl (Nat.le_of_ble_eq_true rfl) hD hF (fun p e s m args below meth c ls C0 hP hS hl => ?_)
  have hl : lv_has ls 3 [(0, .ref (g.2.2 + o0)), (1, .int p1), (2, .ref (g.2.2 + o2))] := hl
  have C0 : tm_C p m c cX1_breakUp 3 s args wsX1_breakUp RX1 meth none g A L tm_all := C0
  obtain ⟨⟨hx, hb, hml, hown, hts⟩, hr, hlk, hK, hD, hG, hF⟩ := id C0
  unfold f_X1_breakUp at h
  obtain ⟨g1, h⟩ := tm_gd_some h
  obtain ⟨g2, h⟩ := tm_gd_some h
  refine lv_aload_n hx hb dX1_breakUp_0 rfl (lv_at hl 0 rfl) ?_
  refine tm_get (C := RX1) (T := TX1) (N := 12) (v := .int (M o0 4)) hx hb hts nX1_breakUp_X1 hown hK hP (hF _ (tm_lt g1)) (tm_mkX1 g1 _) rfl 4 (by decide) (hts _ kX1_breakUp_0) rfl dX1_breakUp_1 ?_
  refine lv_if_ne (tgt := 47) hx hb dX1_breakUp_4 (by decide) (fun c3 => ?_) (fun c3 => ?_)
  · rw [if_neg c3] at h
    refine lv_aload_n hx hb dX1_breakUp_47 rfl (lv_at hl 0 rfl) ?_
    refine lv_dup hx hb dX1_breakUp_48 rfl ?_
    refine tm_get (C := RX1) (T := TX1) (N := 12) (v := .int (M o0 5)) hx hb hts nX1_breakUp_X1 hown hK hP (hF _ (tm_lt g1)) (tm_mkX1 g1 _) rfl 5 (by decide) (hts _ kX1_breakUp_1) rfl dX1_breakUp_49 ?_
    refine lv_iconst (v := 1) hx hb dX1_breakUp_52 (by decide) ?_
    refine lv_iadd hx hb dX1_breakUp_53 ?_
    obtain ⟨M4, e5, h⟩ := tm_bd_some h
    refine tm_put (C := RX1) (T := TX1) (N := 12) (ty := .int) (x := (M o0 5) + 1) hx hb hts nX1_breakUp_X1 tyX1 tyX1_ok nmX1 hown hK hP hD hS (hF _ (tm_lt g1)) (tm_mkX1 g1) rfl 5 (by decide) (hts _ kX1_breakUp_1) rfl (by decide +kernel) rfl rfl (Nat.le_of_ble_eq_true rfl) rfl (Option.some.inj e5) dX1_breakUp_54 (fun H locs hP hS => ?_)
    refine lv_aload_n hx hb dX1_breakUp_57 rfl (lv_at hl 0 rfl) ?_
    refine lv_iload_n hx hb dX1_breakUp_58 rfl (lv_at hl 1 rfl) ?_
    obtain ⟨M6, e7, h⟩ := tm_bd_some h
    refine tm_put (C := RX1) (T := TX1) (N := 12) (ty := .int) (x := p1) hx hb hts nX1_breakUp_X1 tyX1 tyX1_ok nmX1 hown hK hP hD hS (hF _ (tm_lt g1)) (tm_mkX1 g1) rfl 10 (by decide) (hts _ kX1_breakUp_2) rfl (by decide +kernel) rfl rfl (Nat.le_of_ble_eq_true rfl) rfl (Option.some.inj e7) dX1_breakUp_59 (fun H locs hP hS => ?_)
    refine lv_aload_n hx hb dX1_breakUp_62 rfl (lv_at hl 0 rfl) ?_
    refine lv_iconst (v := 0) hx hb dX1_breakUp_63 (by decide) ?_
    obtain ⟨M8, e9, h⟩ := tm_bd_some h
    refine tm_put (C := RX1) (T := TX1) (N := 12) (ty := .int) (x := 0) hx hb hts nX1_breakUp_X1 tyX1 tyX1_ok nmX1 hown hK hP hD hS (hF _ (tm_lt g1)) (tm_mkX1 g1) rfl 2 (by decide) (hts _ kX1_breakUp_3) rfl (by decide +kernel) rfl rfl (Nat.le_of_ble_eq_true rfl) rfl (Option.some.inj e9) dX1_breakUp_64 (fun H locs hP hS => ?_)
    refine lv_aload_n hx hb dX1_breakUp_67 rfl (lv_at hl 0 rfl) ?_
    refine lv_iconst (v := 0) hx hb dX1_breakUp_68 (by decide) ?_
    obtain ⟨M10, e11, h⟩ := tm_bd_some h
    refine tm_put (C := RX1) (T := TX1) (N := 12) (ty := .int) (x := 0) hx hb hts nX1_breakUp_X1 tyX1 tyX1_ok nmX1 hown hK hP hD hS (hF _ (tm_lt g1)) (tm_mkX1 g1) rfl 3 (by decide) (hts _ kX1_breakUp_4) rfl (by decide +kernel) rfl rfl (Nat.le_of_ble_eq_true rfl) rfl (Option.some.inj e11) dX1_breakUp_69 (fun H locs hP hS => ?_)
    exact tm_vret C0 (Option.some.inj h) hP hS dX1_breakUp_72
  · rw [if_pos c3] at h
    refine lv_aload_n hx hb dX1_breakUp_7 rfl (lv_at hl 0 rfl) ?_
    obtain ⟨g12, h⟩ := tm_gd_some h
    refine tm_get (C := RX1) (T := TX1) (N := 12) (v := .ref (g.2.2 + (M o0 0).toNatClampNeg)) hx hb hts nX1_breakUp_X1 hown hK hP (hF _ (tm_lt g1)) (tm_mkX1 g1 _) rfl 0 (by decide) (hts _ kX1_breakUp_5) (tm_natv g12) dX1_breakUp_8 ?_
    refine lv_iload_n hx hb dX1_breakUp_11 rfl (lv_at hl 1 rfl) ?_
    by_cases s13 : tm_shp ((M o0 0).toNatClampNeg) = 1
    · rw [if_pos s13] at h
      obtain ⟨r14, e15, h⟩ := tm_bd_some h
      refine tm_backI (r0 := r14) (M0 := M) (fun _ q => q) (tm_callU (As := [.int p1]) (rest := []) ⟨hx, hb, hml, hown, hts⟩ hK hG hP hS (c_X0_isCovered l g A L hD hF M ((M o0 0).toNatClampNeg) p1 r14 e15) (va_cwU 1 hts gX1_breakUp_X0_isCovered_u86X2 rfl rfl rfl rfl (by decide +kernel) ⟨Nat.le_of_ble_eq_true rfl, Nat.le_of_ble_eq_true rfl⟩) (tm_recv hK hP (hF _ (tm_lt s13)) (ci := 1) rfl (tm_mkX2 s13 _)) rfl hl.1 (lv_room (Nat.le_of_ble_eq_true rfl)) dX1_breakUp_12 ⟨Nat.zero_le _, Nat.zero_le _⟩) hS (fun H locs hP hS => ?_)
      refine lv_if_eq (tgt := 47) hx hb dX1_breakUp_15 (by decide) (fun c16 => ?_) (fun c16 => ?_)
      · rw [if_pos c16] at h
        refine lv_aload_n hx hb dX1_breakUp_47 rfl (lv_at hl 0 rfl) ?_
        refine lv_dup hx hb dX1_breakUp_48 rfl ?_
        refine tm_get (C := RX1) (T := TX1) (N := 12) (v := .int (M o0 5)) hx hb hts nX1_breakUp_X1 hown hK hP (hF _ (tm_lt g1)) (tm_mkX1 g1 _) rfl 5 (by decide) (hts _ kX1_breakUp_1) rfl dX1_breakUp_49 ?_
        refine lv_iconst (v := 1) hx hb dX1_breakUp_52 (by decide) ?_
        refine lv_iadd hx hb dX1_breakUp_53 ?_
        obtain ⟨M17, e18, h⟩ := tm_bd_some h
        refine tm_put (C := RX1) (T := TX1) (N := 12) (ty := .int) (x := (M o0 5) + 1) hx hb hts nX1_breakUp_X1 tyX1 tyX1_ok nmX1 hown hK hP hD hS (hF _ (tm_lt g1)) (tm_mkX1 g1) rfl 5 (by decide) (hts _ kX1_breakUp_1) rfl (by decide +kernel) rfl rfl (Nat.le_of_ble_eq_true rfl) rfl (Option.some.inj e18) dX1_breakUp_54 (fun H locs hP hS => ?_)
        refine lv_aload_n hx hb dX1_breakUp_57 rfl (lv_at hl 0 rfl) ?_
        refine lv_iload_n hx hb dX1_breakUp_58 rfl (lv_at hl 1 rfl) ?_
        obtain ⟨M19, e20, h⟩ := tm_bd_some h
        refine tm_put (C := RX1) (T := TX1) (N := 12) (ty := .int) (x := p1) hx hb hts nX1_breakUp_X1 tyX1 tyX1_ok nmX1 hown hK hP hD hS (hF _ (tm_lt g1)) (tm_mkX1 g1) rfl 10 (by decide) (hts _ kX1_breakUp_2) rfl (by decide +kernel) rfl rfl (Nat.le_of_ble_eq_true rfl) rfl (Option.some.inj e20) dX1_breakUp_59 (fun H locs hP hS => ?_)
        refine lv_aload_n hx hb dX1_breakUp_62 rfl (lv_at hl 0 rfl) ?_
        refine lv_iconst (v := 0) hx hb dX1_breakUp_63 (by decide) ?_
        obtain ⟨M21, e22, h⟩ := tm_bd_some h
        refine tm_put (C := RX1) (T := TX1) (N := 12) (ty := .int) (x := 0) hx hb hts nX1_breakUp_X1 tyX1 tyX1_ok nmX1 hown hK hP hD hS (hF _ (tm_lt g1)) (tm_mkX1 g1) rfl 2 (by decide) (hts _ kX1_breakUp_3) rfl (by decide +kernel) rfl rfl (Nat.le_of_ble_eq_true rfl) rfl (Option.some.inj e22) dX1_breakUp_64 (fun H locs hP hS => ?_)
        refine lv_aload_n hx hb dX1_breakUp_67 rfl (lv_at hl 0 rfl) ?_
        refine lv_iconst (v := 0) hx hb dX1_breakUp_68 (by decide) ?_
        obtain ⟨M23, e24, h⟩ := tm_bd_some h
        refine tm_put (C := RX1) (T := TX1) (N := 12) (ty := .int) (x := 0) hx hb hts nX1_breakUp_X1 tyX1 tyX1_ok nmX1 hown hK hP hD hS (hF _ (tm_lt g1)) (tm_mkX1 g1) rfl 3 (by decide) (hts _ kX1_breakUp_4) rfl (by decide +kernel) rfl rfl (Nat.le_of_ble_eq_true rfl) rfl (Option.some.inj e24) dX1_breakUp_69 (fun H locs hP hS => ?_)
        exact tm_vret C0 (Option.some.inj h) hP hS dX1_breakUp_72
      · rw [if_neg c16] at h
        refine lv_aload_n hx hb dX1_breakUp_18 rfl (lv_at hl 0 rfl) ?_
        refine lv_dup hx hb dX1_breakUp_19 rfl ?_
        refine tm_get (C := RX1) (T := TX1) (N := 12) (v := .int (M o0 9)) hx hb hts nX1_breakUp_X1 hown hK hP (hF _ (tm_lt g1)) (tm_mkX1 g1 _) rfl 9 (by decide) (hts _ kX1_breakUp_6) rfl dX1_breakUp_20 ?_
        refine lv_iconst (v := 0) hx hb dX1_breakUp_23 (by decide) ?_
        refine lv_aload_n hx hb dX1_breakUp_24 rfl (lv_at hl 0 rfl) ?_
        refine tm_get (C := RX1) (T := TX1) (N := 12) (v := .int (M o0 2)) hx hb hts nX1_breakUp_X1 hown hK hP (hF _ (tm_lt g1)) (tm_mkX1 g1 _) rfl 2 (by decide) (hts _ kX1_breakUp_3) rfl dX1_breakUp_25 ?_
        refine lv_aload_n hx hb dX1_breakUp_28 rfl (lv_at hl 2 rfl) ?_
        refine tm_get (C := RX6) (T := TX6) (N := 6) (v := .int (M o2 1)) hx hb hts nX1_breakUp_X6 hown hK hP (hF _ (tm_lt g2)) (tm_mkX6 g2 _) rfl 1 (by decide) (hts _ kX1_breakUp_7) rfl dX1_breakUp_29 ?_
        refine va_mmin hx hb (hml.trans hl.1.symm) hown (hts _ kX1_breakUp_8) (hts _ kX1_breakUp_9) (hts _ kX1_breakUp_10) (hts _ kX1_breakUp_11) (Nat.le_of_ble_eq_true rfl) (Nat.le_of_ble_eq_true rfl) (Nat.zero_le _) (Nat.zero_le _) dX1_breakUp_32 ?_
        refine lv_aload_n hx hb dX1_breakUp_35 rfl (lv_at hl 2 rfl) ?_
        refine tm_get (C := RX6) (T := TX6) (N := 6) (v := .int (M o2 0)) hx hb hts nX1_breakUp_X6 hown hK hP (hF _ (tm_lt g2)) (tm_mkX6 g2 _) rfl 0 (by decide) (hts _ kX1_breakUp_12) rfl dX1_breakUp_36 ?_
        refine lv_isub hx hb dX1_breakUp_39 ?_
        refine va_mmax hx hb (hml.trans hl.1.symm) hown (hts _ kX1_breakUp_13) (hts _ kX1_breakUp_14) (hts _ kX1_breakUp_10) (hts _ kX1_breakUp_15) (Nat.le_of_ble_eq_true rfl) (Nat.le_of_ble_eq_true rfl) (Nat.zero_le _) (Nat.zero_le _) dX1_breakUp_40 ?_
        refine lv_iadd hx hb dX1_breakUp_43 ?_
        obtain ⟨M25, e26, h⟩ := tm_bd_some h
        refine tm_put (C := RX1) (T := TX1) (N := 12) (ty := .int) (x := (M o0 9) + (if 0 < ((if (M o2 1) < (M o0 2) then (M o2 1) else (M o0 2)) - (M o2 0)) then ((if (M o2 1) < (M o0 2) then (M o2 1) else (M o0 2)) - (M o2 0)) else 0)) hx hb hts nX1_breakUp_X1 tyX1 tyX1_ok nmX1 hown hK hP hD hS (hF _ (tm_lt g1)) (tm_mkX1 g1) rfl 9 (by decide) (hts _ kX1_breakUp_6) rfl (by decide +kernel) rfl rfl (Nat.le_of_ble_eq_true rfl) rfl (Option.some.inj e26) dX1_breakUp_44 (fun H locs hP hS => ?_)
        refine lv_aload_n hx hb dX1_breakUp_47 rfl (lv_at hl 0 rfl) ?_
        refine lv_dup hx hb dX1_breakUp_48 rfl ?_
        refine tm_get (C := RX1) (T := TX1) (N := 12) (v := .int (M25 o0 5)) hx hb hts nX1_breakUp_X1 hown hK hP (hF _ (tm_lt g1)) (tm_mkX1 g1 _) rfl 5 (by decide) (hts _ kX1_breakUp_1) rfl dX1_breakUp_49 ?_
        refine lv_iconst (v := 1) hx hb dX1_breakUp_52 (by decide) ?_
        refine lv_iadd hx hb dX1_breakUp_53 ?_
        obtain ⟨M27, e28, h⟩ := tm_bd_some h
        refine tm_put (C := RX1) (T := TX1) (N := 12) (ty := .int) (x := (M25 o0 5) + 1) hx hb hts nX1_breakUp_X1 tyX1 tyX1_ok nmX1 hown hK hP hD hS (hF _ (tm_lt g1)) (tm_mkX1 g1) rfl 5 (by decide) (hts _ kX1_breakUp_1) rfl (by decide +kernel) rfl rfl (Nat.le_of_ble_eq_true rfl) rfl (Option.some.inj e28) dX1_breakUp_54 (fun H locs hP hS => ?_)
        refine lv_aload_n hx hb dX1_breakUp_57 rfl (lv_at hl 0 rfl) ?_
        refine lv_iload_n hx hb dX1_breakUp_58 rfl (lv_at hl 1 rfl) ?_
        obtain ⟨M29, e30, h⟩ := tm_bd_some h
        refine tm_put (C := RX1) (T := TX1) (N := 12) (ty := .int) (x := p1) hx hb hts nX1_breakUp_X1 tyX1 tyX1_ok nmX1 hown hK hP hD hS (hF _ (tm_lt g1)) (tm_mkX1 g1) rfl 10 (by decide) (hts _ kX1_breakUp_2) rfl (by decide +kernel) rfl rfl (Nat.le_of_ble_eq_true rfl) rfl (Option.some.inj e30) dX1_breakUp_59 (fun H locs hP hS => ?_)
        refine lv_aload_n hx hb dX1_breakUp_62 rfl (lv_at hl 0 rfl) ?_
        refine lv_iconst (v := 0) hx hb dX1_breakUp_63 (by decide) ?_
        obtain ⟨M31, e32, h⟩ := tm_bd_some h
        refine tm_put (C := RX1) (T := TX1) (N := 12) (ty := .int) (x := 0) hx hb hts nX1_breakUp_X1 tyX1 tyX1_ok nmX1 hown hK hP hD hS (hF _ (tm_lt g1)) (tm_mkX1 g1) rfl 2 (by decide) (hts _ kX1_breakUp_3) rfl (by decide +kernel) rfl rfl (Nat.le_of_ble_eq_true rfl) rfl (Option.some.inj e32) dX1_breakUp_64 (fun H locs hP hS => ?_)
        refine lv_aload_n hx hb dX1_breakUp_67 rfl (lv_at hl 0 rfl) ?_
        refine lv_iconst (v := 0) hx hb dX1_breakUp_68 (by decide) ?_
        obtain ⟨M33, e34, h⟩ := tm_bd_some h
        refine tm_put (C := RX1) (T := TX1) (N := 12) (ty := .int) (x := 0) hx hb hts nX1_breakUp_X1 tyX1 tyX1_ok nmX1 hown hK hP hD hS (hF _ (tm_lt g1)) (tm_mkX1 g1) rfl 3 (by decide) (hts _ kX1_breakUp_4) rfl (by decide +kernel) rfl rfl (Nat.le_of_ble_eq_true rfl) rfl (Option.some.inj e34) dX1_breakUp_69 (fun H locs hP hS => ?_)
        exact tm_vret C0 (Option.some.inj h) hP hS dX1_breakUp_72
    · rw [if_neg s13] at h
      by_cases s35 : tm_shp ((M o0 0).toNatClampNeg) = 2
      · rw [if_pos s35] at h
        obtain ⟨r36, e37, h⟩ := tm_bd_some h
        refine tm_backI (r0 := r36) (M0 := M) (fun _ q => q) (tm_callU (As := [.int p1]) (rest := []) ⟨hx, hb, hml, hown, hts⟩ hK hG hP hS (c_X0_isCovered l g A L hD hF M ((M o0 0).toNatClampNeg) p1 r36 e37) (va_cwU 1 hts gX1_breakUp_X0_isCovered_u86X3 rfl rfl rfl rfl (by decide +kernel) ⟨Nat.le_of_ble_eq_true rfl, Nat.le_of_ble_eq_true rfl⟩) (tm_recv hK hP (hF _ (tm_lt s35)) (ci := 2) rfl (tm_mkX3 s35 _)) rfl hl.1 (lv_room (Nat.le_of_ble_eq_true rfl)) dX1_breakUp_12 ⟨Nat.zero_le _, Nat.zero_le _⟩) hS (fun H locs hP hS => ?_)
        refine lv_if_eq (tgt := 47) hx hb dX1_breakUp_15 (by decide) (fun c38 => ?_) (fun c38 => ?_)
        · rw [if_pos c38] at h
          refine lv_aload_n hx hb dX1_breakUp_47 rfl (lv_at hl 0 rfl) ?_
          refine lv_dup hx hb dX1_breakUp_48 rfl ?_
          refine tm_get (C := RX1) (T := TX1) (N := 12) (v := .int (M o0 5)) hx hb hts nX1_breakUp_X1 hown hK hP (hF _ (tm_lt g1)) (tm_mkX1 g1 _) rfl 5 (by decide) (hts _ kX1_breakUp_1) rfl dX1_breakUp_49 ?_
          refine lv_iconst (v := 1) hx hb dX1_breakUp_52 (by decide) ?_
          refine lv_iadd hx hb dX1_breakUp_53 ?_
          obtain ⟨M39, e40, h⟩ := tm_bd_some h
          refine tm_put (C := RX1) (T := TX1) (N := 12) (ty := .int) (x := (M o0 5) + 1) hx hb hts nX1_breakUp_X1 tyX1 tyX1_ok nmX1 hown hK hP hD hS (hF _ (tm_lt g1)) (tm_mkX1 g1) rfl 5 (by decide) (hts _ kX1_breakUp_1) rfl (by decide +kernel) rfl rfl (Nat.le_of_ble_eq_true rfl) rfl (Option.some.inj e40) dX1_breakUp_54 (fun H locs hP hS => ?_)
          refine lv_aload_n hx hb dX1_breakUp_57 rfl (lv_at hl 0 rfl) ?_
          refine lv_iload_n hx hb dX1_breakUp_58 rfl (lv_at hl 1 rfl) ?_
          obtain ⟨M41, e42, h⟩ := tm_bd_some h
          refine tm_put (C := RX1) (T := TX1) (N := 12) (ty := .int) (x := p1) hx hb hts nX1_breakUp_X1 tyX1 tyX1_ok nmX1 hown hK hP hD hS (hF _ (tm_lt g1)) (tm_mkX1 g1) rfl 10 (by decide) (hts _ kX1_breakUp_2) rfl (by decide +kernel) rfl rfl (Nat.le_of_ble_eq_true rfl) rfl (Option.some.inj e42) dX1_breakUp_59 (fun H locs hP hS => ?_)
          refine lv_aload_n hx hb dX1_breakUp_62 rfl (lv_at hl 0 rfl) ?_
          refine lv_iconst (v := 0) hx hb dX1_breakUp_63 (by decide) ?_
          obtain ⟨M43, e44, h⟩ := tm_bd_some h
          refine tm_put (C := RX1) (T := TX1) (N := 12) (ty := .int) (x := 0) hx hb hts nX1_breakUp_X1 tyX1 tyX1_ok nmX1 hown hK hP hD hS (hF _ (tm_lt g1)) (tm_mkX1 g1) rfl 2 (by decide) (hts _ kX1_breakUp_3) rfl (by decide +kernel) rfl rfl (Nat.le_of_ble_eq_true rfl) rfl (Option.some.inj e44) dX1_breakUp_64 (fun H locs hP hS => ?_)
          refine lv_aload_n hx hb dX1_breakUp_67 rfl (lv_at hl 0 rfl) ?_
          refine lv_iconst (v := 0) hx hb dX1_breakUp_68 (by decide) ?_
          obtain ⟨M45, e46, h⟩ := tm_bd_some h
          refine tm_put (C := RX1) (T := TX1) (N := 12) (ty := .int) (x := 0) hx hb hts nX1_breakUp_X1 tyX1 tyX1_ok nmX1 hown hK hP hD hS (hF _ (tm_lt g1)) (tm_mkX1 g1) rfl 3 (by decide) (hts _ kX1_breakUp_4) rfl (by decide +kernel) rfl rfl (Nat.le_of_ble_eq_true rfl) rfl (Option.some.inj e46) dX1_breakUp_69 (fun H locs hP hS => ?_)
          exact tm_vret C0 (Option.some.inj h) hP hS dX1_breakUp_72
        · rw [if_neg c38] at h
          refine lv_aload_n hx hb dX1_breakUp_18 rfl (lv_at hl 0 rfl) ?_
          refine lv_dup hx hb dX1_breakUp_19 rfl ?_
          refine tm_get (C := RX1) (T := TX1) (N := 12) (v := .int (M o0 9)) hx hb hts nX1_breakUp_X1 hown hK hP (hF _ (tm_lt g1)) (tm_mkX1 g1 _) rfl 9 (by decide) (hts _ kX1_breakUp_6) rfl dX1_breakUp_20 ?_
          refine lv_iconst (v := 0) hx hb dX1_breakUp_23 (by decide) ?_
          refine lv_aload_n hx hb dX1_breakUp_24 rfl (lv_at hl 0 rfl) ?_
          refine tm_get (C := RX1) (T := TX1) (N := 12) (v := .int (M o0 2)) hx hb hts nX1_breakUp_X1 hown hK hP (hF _ (tm_lt g1)) (tm_mkX1 g1 _) rfl 2 (by decide) (hts _ kX1_breakUp_3) rfl dX1_breakUp_25 ?_
          refine lv_aload_n hx hb dX1_breakUp_28 rfl (lv_at hl 2 rfl) ?_
          refine tm_get (C := RX6) (T := TX6) (N := 6) (v := .int (M o2 1)) hx hb hts nX1_breakUp_X6 hown hK hP (hF _ (tm_lt g2)) (tm_mkX6 g2 _) rfl 1 (by decide) (hts _ kX1_breakUp_7) rfl dX1_breakUp_29 ?_
          refine va_mmin hx hb (hml.trans hl.1.symm) hown (hts _ kX1_breakUp_8) (hts _ kX1_breakUp_9) (hts _ kX1_breakUp_10) (hts _ kX1_breakUp_11) (Nat.le_of_ble_eq_true rfl) (Nat.le_of_ble_eq_true rfl) (Nat.zero_le _) (Nat.zero_le _) dX1_breakUp_32 ?_
          refine lv_aload_n hx hb dX1_breakUp_35 rfl (lv_at hl 2 rfl) ?_
          refine tm_get (C := RX6) (T := TX6) (N := 6) (v := .int (M o2 0)) hx hb hts nX1_breakUp_X6 hown hK hP (hF _ (tm_lt g2)) (tm_mkX6 g2 _) rfl 0 (by decide) (hts _ kX1_breakUp_12) rfl dX1_breakUp_36 ?_
          refine lv_isub hx hb dX1_breakUp_39 ?_
          refine va_mmax hx hb (hml.trans hl.1.symm) hown (hts _ kX1_breakUp_13) (hts _ kX1_breakUp_14) (hts _ kX1_breakUp_10) (hts _ kX1_breakUp_15) (Nat.le_of_ble_eq_true rfl) (Nat.le_of_ble_eq_true rfl) (Nat.zero_le _) (Nat.zero_le _) dX1_breakUp_40 ?_
          refine lv_iadd hx hb dX1_breakUp_43 ?_
          obtain ⟨M47, e48, h⟩ := tm_bd_some h
          refine tm_put (C := RX1) (T := TX1) (N := 12) (ty := .int) (x := (M o0 9) + (if 0 < ((if (M o2 1) < (M o0 2) then (M o2 1) else (M o0 2)) - (M o2 0)) then ((if (M o2 1) < (M o0 2) then (M o2 1) else (M o0 2)) - (M o2 0)) else 0)) hx hb hts nX1_breakUp_X1 tyX1 tyX1_ok nmX1 hown hK hP hD hS (hF _ (tm_lt g1)) (tm_mkX1 g1) rfl 9 (by decide) (hts _ kX1_breakUp_6) rfl (by decide +kernel) rfl rfl (Nat.le_of_ble_eq_true rfl) rfl (Option.some.inj e48) dX1_breakUp_44 (fun H locs hP hS => ?_)
          refine lv_aload_n hx hb dX1_breakUp_47 rfl (lv_at hl 0 rfl) ?_
          refine lv_dup hx hb dX1_breakUp_48 rfl ?_
          refine tm_get (C := RX1) (T := TX1) (N := 12) (v := .int (M47 o0 5)) hx hb hts nX1_breakUp_X1 hown hK hP (hF _ (tm_lt g1)) (tm_mkX1 g1 _) rfl 5 (by decide) (hts _ kX1_breakUp_1) rfl dX1_breakUp_49 ?_
          refine lv_iconst (v := 1) hx hb dX1_breakUp_52 (by decide) ?_
          refine lv_iadd hx hb dX1_breakUp_53 ?_
          obtain ⟨M49, e50, h⟩ := tm_bd_some h
          refine tm_put (C := RX1) (T := TX1) (N := 12) (ty := .int) (x := (M47 o0 5) + 1) hx hb hts nX1_breakUp_X1 tyX1 tyX1_ok nmX1 hown hK hP hD hS (hF _ (tm_lt g1)) (tm_mkX1 g1) rfl 5 (by decide) (hts _ kX1_breakUp_1) rfl (by decide +kernel) rfl rfl (Nat.le_of_ble_eq_true rfl) rfl (Option.some.inj e50) dX1_breakUp_54 (fun H locs hP hS => ?_)
          refine lv_aload_n hx hb dX1_breakUp_57 rfl (lv_at hl 0 rfl) ?_
          refine lv_iload_n hx hb dX1_breakUp_58 rfl (lv_at hl 1 rfl) ?_
          obtain ⟨M51, e52, h⟩ := tm_bd_some h
          refine tm_put (C := RX1) (T := TX1) (N := 12) (ty := .int) (x := p1) hx hb hts nX1_breakUp_X1 tyX1 tyX1_ok nmX1 hown hK hP hD hS (hF _ (tm_lt g1)) (tm_mkX1 g1) rfl 10 (by decide) (hts _ kX1_breakUp_2) rfl (by decide +kernel) rfl rfl (Nat.le_of_ble_eq_true rfl) rfl (Option.some.inj e52) dX1_breakUp_59 (fun H locs hP hS => ?_)
          refine lv_aload_n hx hb dX1_breakUp_62 rfl (lv_at hl 0 rfl) ?_
          refine lv_iconst (v := 0) hx hb dX1_breakUp_63 (by decide) ?_
          obtain ⟨M53, e54, h⟩ := tm_bd_some h
          refine tm_put (C := RX1) (T := TX1) (N := 12) (ty := .int) (x := 0) hx hb hts nX1_breakUp_X1 tyX1 tyX1_ok nmX1 hown hK hP hD hS (hF _ (tm_lt g1)) (tm_mkX1 g1) rfl 2 (by decide) (hts _ kX1_breakUp_3) rfl (by decide +kernel) rfl rfl (Nat.le_of_ble_eq_true rfl) rfl (Option.some.inj e54) dX1_breakUp_64 (fun H locs hP hS => ?_)
          refine lv_aload_n hx hb dX1_breakUp_67 rfl (lv_at hl 0 rfl) ?_
          refine lv_iconst (v := 0) hx hb dX1_breakUp_68 (by decide) ?_
          obtain ⟨M55, e56, h⟩ := tm_bd_some h
          refine tm_put (C := RX1) (T := TX1) (N := 12) (ty := .int) (x := 0) hx hb hts nX1_breakUp_X1 tyX1 tyX1_ok nmX1 hown hK hP hD hS (hF _ (tm_lt g1)) (tm_mkX1 g1) rfl 3 (by decide) (hts _ kX1_breakUp_4) rfl (by decide +kernel) rfl rfl (Nat.le_of_ble_eq_true rfl) rfl (Option.some.inj e56) dX1_breakUp_69 (fun H locs hP hS => ?_)
          exact tm_vret C0 (Option.some.inj h) hP hS dX1_breakUp_72
      · rw [if_neg s35] at h
        by_cases s57 : tm_shp ((M o0 0).toNatClampNeg) = 3
        · rw [if_pos s57] at h
          obtain ⟨r58, e59, h⟩ := tm_bd_some h
          refine tm_backI (r0 := r58) (M0 := M) (fun _ q => q) (tm_callU (As := [.int p1]) (rest := []) ⟨hx, hb, hml, hown, hts⟩ hK hG hP hS (c_X0_isCovered l g A L hD hF M ((M o0 0).toNatClampNeg) p1 r58 e59) (va_cwU 1 hts gX1_breakUp_X0_isCovered_u86X4 rfl rfl rfl rfl (by decide +kernel) ⟨Nat.le_of_ble_eq_true rfl, Nat.le_of_ble_eq_true rfl⟩) (tm_recv hK hP (hF _ (tm_lt s57)) (ci := 3) rfl (tm_mkX4 s57 _)) rfl hl.1 (lv_room (Nat.le_of_ble_eq_true rfl)) dX1_breakUp_12 ⟨Nat.zero_le _, Nat.zero_le _⟩) hS (fun H locs hP hS => ?_)
          refine lv_if_eq (tgt := 47) hx hb dX1_breakUp_15 (by decide) (fun c60 => ?_) (fun c60 => ?_)
          · rw [if_pos c60] at h
            refine lv_aload_n hx hb dX1_breakUp_47 rfl (lv_at hl 0 rfl) ?_
            refine lv_dup hx hb dX1_breakUp_48 rfl ?_
            refine tm_get (C := RX1) (T := TX1) (N := 12) (v := .int (M o0 5)) hx hb hts nX1_breakUp_X1 hown hK hP (hF _ (tm_lt g1)) (tm_mkX1 g1 _) rfl 5 (by decide) (hts _ kX1_breakUp_1) rfl dX1_breakUp_49 ?_
            refine lv_iconst (v := 1) hx hb dX1_breakUp_52 (by decide) ?_
            refine lv_iadd hx hb dX1_breakUp_53 ?_
            obtain ⟨M61, e62, h⟩ := tm_bd_some h
            refine tm_put (C := RX1) (T := TX1) (N := 12) (ty := .int) (x := (M o0 5) + 1) hx hb hts nX1_breakUp_X1 tyX1 tyX1_ok nmX1 hown hK hP hD hS (hF _ (tm_lt g1)) (tm_mkX1 g1) rfl 5 (by decide) (hts _ kX1_breakUp_1) rfl (by decide +kernel) rfl rfl (Nat.le_of_ble_eq_true rfl) rfl (Option.some.inj e62) dX1_breakUp_54 (fun H locs hP hS => ?_)
            refine lv_aload_n hx hb dX1_breakUp_57 rfl (lv_at hl 0 rfl) ?_
            refine lv_iload_n hx hb dX1_breakUp_58 rfl (lv_at hl 1 rfl) ?_
            obtain ⟨M63, e64, h⟩ := tm_bd_some h
            refine tm_put (C := RX1) (T := TX1) (N := 12) (ty := .int) (x := p1) hx hb hts nX1_breakUp_X1 tyX1 tyX1_ok nmX1 hown hK hP hD hS (hF _ (tm_lt g1)) (tm_mkX1 g1) rfl 10 (by decide) (hts _ kX1_breakUp_2) rfl (by decide +kernel) rfl rfl (Nat.le_of_ble_eq_true rfl) rfl (Option.some.inj e64) dX1_breakUp_59 (fun H locs hP hS => ?_)
            refine lv_aload_n hx hb dX1_breakUp_62 rfl (lv_at hl 0 rfl) ?_
            refine lv_iconst (v := 0) hx hb dX1_breakUp_63 (by decide) ?_
            obtain ⟨M65, e66, h⟩ := tm_bd_some h
            refine tm_put (C := RX1) (T := TX1) (N := 12) (ty := .int) (x := 0) hx hb hts nX1_breakUp_X1 tyX1 tyX1_ok nmX1 hown hK hP hD hS (hF _ (tm_lt g1)) (tm_mkX1 g1) rfl 2 (by decide) (hts _ kX1_breakUp_3) rfl (by decide +kernel) rfl rfl (Nat.le_of_ble_eq_true rfl) rfl (Option.some.inj e66) dX1_breakUp_64 (fun H locs hP hS => ?_)
            refine lv_aload_n hx hb dX1_breakUp_67 rfl (lv_at hl 0 rfl) ?_
            refine lv_iconst (v := 0) hx hb dX1_breakUp_68 (by decide) ?_
            obtain ⟨M67, e68, h⟩ := tm_bd_some h
            refine tm_put (C := RX1) (T := TX1) (N := 12) (ty := .int) (x := 0) hx hb hts nX1_breakUp_X1 tyX1 tyX1_ok nmX1 hown hK hP hD hS (hF _ (tm_lt g1)) (tm_mkX1 g1) rfl 3 (by decide) (hts _ kX1_breakUp_4) rfl (by decide +kernel) rfl rfl (Nat.le_of_ble_eq_true rfl) rfl (Option.some.inj e68) dX1_breakUp_69 (fun H locs hP hS => ?_)
            exact tm_vret C0 (Option.some.inj h) hP hS dX1_breakUp_72
          · rw [if_neg c60] at h
            refine lv_aload_n hx hb dX1_breakUp_18 rfl (lv_at hl 0 rfl) ?_
            refine lv_dup hx hb dX1_breakUp_19 rfl ?_
            refine tm_get (C := RX1) (T := TX1) (N := 12) (v := .int (M o0 9)) hx hb hts nX1_breakUp_X1 hown hK hP (hF _ (tm_lt g1)) (tm_mkX1 g1 _) rfl 9 (by decide) (hts _ kX1_breakUp_6) rfl dX1_breakUp_20 ?_
            refine lv_iconst (v := 0) hx hb dX1_breakUp_23 (by decide) ?_
            refine lv_aload_n hx hb dX1_breakUp_24 rfl (lv_at hl 0 rfl) ?_
            refine tm_get (C := RX1) (T := TX1) (N := 12) (v := .int (M o0 2)) hx hb hts nX1_breakUp_X1 hown hK hP (hF _ (tm_lt g1)) (tm_mkX1 g1 _) rfl 2 (by decide) (hts _ kX1_breakUp_3) rfl dX1_breakUp_25 ?_
            refine lv_aload_n hx hb dX1_breakUp_28 rfl (lv_at hl 2 rfl) ?_
            refine tm_get (C := RX6) (T := TX6) (N := 6) (v := .int (M o2 1)) hx hb hts nX1_breakUp_X6 hown hK hP (hF _ (tm_lt g2)) (tm_mkX6 g2 _) rfl 1 (by decide) (hts _ kX1_breakUp_7) rfl dX1_breakUp_29 ?_
            refine va_mmin hx hb (hml.trans hl.1.symm) hown (hts _ kX1_breakUp_8) (hts _ kX1_breakUp_9) (hts _ kX1_breakUp_10) (hts _ kX1_breakUp_11) (Nat.le_of_ble_eq_true rfl) (Nat.le_of_ble_eq_true rfl) (Nat.zero_le _) (Nat.zero_le _) dX1_breakUp_32 ?_
            refine lv_aload_n hx hb dX1_breakUp_35 rfl (lv_at hl 2 rfl) ?_
            refine tm_get (C := RX6) (T := TX6) (N := 6) (v := .int (M o2 0)) hx hb hts nX1_breakUp_X6 hown hK hP (hF _ (tm_lt g2)) (tm_mkX6 g2 _) rfl 0 (by decide) (hts _ kX1_breakUp_12) rfl dX1_breakUp_36 ?_
            refine lv_isub hx hb dX1_breakUp_39 ?_
            refine va_mmax hx hb (hml.trans hl.1.symm) hown (hts _ kX1_breakUp_13) (hts _ kX1_breakUp_14) (hts _ kX1_breakUp_10) (hts _ kX1_breakUp_15) (Nat.le_of_ble_eq_true rfl) (Nat.le_of_ble_eq_true rfl) (Nat.zero_le _) (Nat.zero_le _) dX1_breakUp_40 ?_
            refine lv_iadd hx hb dX1_breakUp_43 ?_
            obtain ⟨M69, e70, h⟩ := tm_bd_some h
            refine tm_put (C := RX1) (T := TX1) (N := 12) (ty := .int) (x := (M o0 9) + (if 0 < ((if (M o2 1) < (M o0 2) then (M o2 1) else (M o0 2)) - (M o2 0)) then ((if (M o2 1) < (M o0 2) then (M o2 1) else (M o0 2)) - (M o2 0)) else 0)) hx hb hts nX1_breakUp_X1 tyX1 tyX1_ok nmX1 hown hK hP hD hS (hF _ (tm_lt g1)) (tm_mkX1 g1) rfl 9 (by decide) (hts _ kX1_breakUp_6) rfl (by decide +kernel) rfl rfl (Nat.le_of_ble_eq_true rfl) rfl (Option.some.inj e70) dX1_breakUp_44 (fun H locs hP hS => ?_)
            refine lv_aload_n hx hb dX1_breakUp_47 rfl (lv_at hl 0 rfl) ?_
            refine lv_dup hx hb dX1_breakUp_48 rfl ?_
            refine tm_get (C := RX1) (T := TX1) (N := 12) (v := .int (M69 o0 5)) hx hb hts nX1_breakUp_X1 hown hK hP (hF _ (tm_lt g1)) (tm_mkX1 g1 _) rfl 5 (by decide) (hts _ kX1_breakUp_1) rfl dX1_breakUp_49 ?_
            refine lv_iconst (v := 1) hx hb dX1_breakUp_52 (by decide) ?_
            refine lv_iadd hx hb dX1_breakUp_53 ?_
            obtain ⟨M71, e72, h⟩ := tm_bd_some h
            refine tm_put (C := RX1) (T := TX1) (N := 12) (ty := .int) (x := (M69 o0 5) + 1) hx hb hts nX1_breakUp_X1 tyX1 tyX1_ok nmX1 hown hK hP hD hS (hF _ (tm_lt g1)) (tm_mkX1 g1) rfl 5 (by decide) (hts _ kX1_breakUp_1) rfl (by decide +kernel) rfl rfl (Nat.le_of_ble_eq_true rfl) rfl (Option.some.inj e72) dX1_breakUp_54 (fun H locs hP hS => ?_)
            refine lv_aload_n hx hb dX1_breakUp_57 rfl (lv_at hl 0 rfl) ?_
            refine lv_iload_n hx hb dX1_breakUp_58 rfl (lv_at hl 1 rfl) ?_
            obtain ⟨M73, e74, h⟩ := tm_bd_some h
            refine tm_put (C := RX1) (T := TX1) (N := 12) (ty := .int) (x := p1) hx hb hts nX1_breakUp_X1 tyX1 tyX1_ok nmX1 hown hK hP hD hS (hF _ (tm_lt g1)) (tm_mkX1 g1) rfl 10 (by decide) (hts _ kX1_breakUp_2) rfl (by decide +kernel) rfl rfl (Nat.le_of_ble_eq_true rfl) rfl (Option.some.inj e74) dX1_breakUp_59 (fun H locs hP hS => ?_)
            refine lv_aload_n hx hb dX1_breakUp_62 rfl (lv_at hl 0 rfl) ?_
            refine lv_iconst (v := 0) hx hb dX1_breakUp_63 (by decide) ?_
            obtain ⟨M75, e76, h⟩ := tm_bd_some h
            refine tm_put (C := RX1) (T := TX1) (N := 12) (ty := .int) (x := 0) hx hb hts nX1_breakUp_X1 tyX1 tyX1_ok nmX1 hown hK hP hD hS (hF _ (tm_lt g1)) (tm_mkX1 g1) rfl 2 (by decide) (hts _ kX1_breakUp_3) rfl (by decide +kernel) rfl rfl (Nat.le_of_ble_eq_true rfl) rfl (Option.some.inj e76) dX1_breakUp_64 (fun H locs hP hS => ?_)
            refine lv_aload_n hx hb dX1_breakUp_67 rfl (lv_at hl 0 rfl) ?_
            refine lv_iconst (v := 0) hx hb dX1_breakUp_68 (by decide) ?_
            obtain ⟨M77, e78, h⟩ := tm_bd_some h
            refine tm_put (C := RX1) (T := TX1) (N := 12) (ty := .int) (x := 0) hx hb hts nX1_breakUp_X1 tyX1 tyX1_ok nmX1 hown hK hP hD hS (hF _ (tm_lt g1)) (tm_mkX1 g1) rfl 3 (by decide) (hts _ kX1_breakUp_4) rfl (by decide +kernel) rfl rfl (Nat.le_of_ble_eq_true rfl) rfl (Option.some.inj e78) dX1_breakUp_69 (fun H locs hP hS => ?_)
            exact tm_vret C0 (Option.some.inj h) hP hS dX1_breakUp_72
        · rw [if_neg s57] at h
          by_cases s79 : tm_shp ((M o0 0).toNatClampNeg) = 4
          · rw [if_pos s79] at h
            obtain ⟨r80, e81, h⟩ := tm_bd_some h
            refine tm_backI (r0 := r80) (M0 := M) (fun _ q => q) (tm_callU (As := [.int p1]) (rest := []) ⟨hx, hb, hml, hown, hts⟩ hK hG hP hS (c_X5_isCovered l g A L hD hF M ((M o0 0).toNatClampNeg) p1 r80 e81) (va_cwO 1 hts gX1_breakUp_X5_isCovered_u86X5 rfl rfl rfl (kX1_breakUp_16) (by decide +kernel) ⟨Nat.le_of_ble_eq_true rfl, Nat.le_of_ble_eq_true rfl⟩) (tm_recv hK hP (hF _ (tm_lt s79)) (ci := 4) rfl (tm_mkX5 s79 _)) rfl hl.1 (lv_room (Nat.le_of_ble_eq_true rfl)) dX1_breakUp_12 ⟨Nat.zero_le _, Nat.zero_le _⟩) hS (fun H locs hP hS => ?_)
            refine lv_if_eq (tgt := 47) hx hb dX1_breakUp_15 (by decide) (fun c82 => ?_) (fun c82 => ?_)
            · rw [if_pos c82] at h
              refine lv_aload_n hx hb dX1_breakUp_47 rfl (lv_at hl 0 rfl) ?_
              refine lv_dup hx hb dX1_breakUp_48 rfl ?_
              refine tm_get (C := RX1) (T := TX1) (N := 12) (v := .int (M o0 5)) hx hb hts nX1_breakUp_X1 hown hK hP (hF _ (tm_lt g1)) (tm_mkX1 g1 _) rfl 5 (by decide) (hts _ kX1_breakUp_1) rfl dX1_breakUp_49 ?_
              refine lv_iconst (v := 1) hx hb dX1_breakUp_52 (by decide) ?_
              refine lv_iadd hx hb dX1_breakUp_53 ?_
              obtain ⟨M83, e84, h⟩ := tm_bd_some h
              refine tm_put (C := RX1) (T := TX1) (N := 12) (ty := .int) (x := (M o0 5) + 1) hx hb hts nX1_breakUp_X1 tyX1 tyX1_ok nmX1 hown hK hP hD hS (hF _ (tm_lt g1)) (tm_mkX1 g1) rfl 5 (by decide) (hts _ kX1_breakUp_1) rfl (by decide +kernel) rfl rfl (Nat.le_of_ble_eq_true rfl) rfl (Option.some.inj e84) dX1_breakUp_54 (fun H locs hP hS => ?_)
              refine lv_aload_n hx hb dX1_breakUp_57 rfl (lv_at hl 0 rfl) ?_
              refine lv_iload_n hx hb dX1_breakUp_58 rfl (lv_at hl 1 rfl) ?_
              obtain ⟨M85, e86, h⟩ := tm_bd_some h
              refine tm_put (C := RX1) (T := TX1) (N := 12) (ty := .int) (x := p1) hx hb hts nX1_breakUp_X1 tyX1 tyX1_ok nmX1 hown hK hP hD hS (hF _ (tm_lt g1)) (tm_mkX1 g1) rfl 10 (by decide) (hts _ kX1_breakUp_2) rfl (by decide +kernel) rfl rfl (Nat.le_of_ble_eq_true rfl) rfl (Option.some.inj e86) dX1_breakUp_59 (fun H locs hP hS => ?_)
              refine lv_aload_n hx hb dX1_breakUp_62 rfl (lv_at hl 0 rfl) ?_
              refine lv_iconst (v := 0) hx hb dX1_breakUp_63 (by decide) ?_
              obtain ⟨M87, e88, h⟩ := tm_bd_some h
              refine tm_put (C := RX1) (T := TX1) (N := 12) (ty := .int) (x := 0) hx hb hts nX1_breakUp_X1 tyX1 tyX1_ok nmX1 hown hK hP hD hS (hF _ (tm_lt g1)) (tm_mkX1 g1) rfl 2 (by decide) (hts _ kX1_breakUp_3) rfl (by decide +kernel) rfl rfl (Nat.le_of_ble_eq_true rfl) rfl (Option.some.inj e88) dX1_breakUp_64 (fun H locs hP hS => ?_)
              refine lv_aload_n hx hb dX1_breakUp_67 rfl (lv_at hl 0 rfl) ?_
              refine lv_iconst (v := 0) hx hb dX1_breakUp_68 (by decide) ?_
              obtain ⟨M89, e90, h⟩ := tm_bd_some h
              refine tm_put (C := RX1) (T := TX1) (N := 12) (ty := .int) (x := 0) hx hb hts nX1_breakUp_X1 tyX1 tyX1_ok nmX1 hown hK hP hD hS (hF _ (tm_lt g1)) (tm_mkX1 g1) rfl 3 (by decide) (hts _ kX1_breakUp_4) rfl (by decide +kernel) rfl rfl (Nat.le_of_ble_eq_true rfl) rfl (Option.some.inj e90) dX1_breakUp_69 (fun H locs hP hS => ?_)
              exact tm_vret C0 (Option.some.inj h) hP hS dX1_breakUp_72
            · rw [if_neg c82] at h
              refine lv_aload_n hx hb dX1_breakUp_18 rfl (lv_at hl 0 rfl) ?_
              refine lv_dup hx hb dX1_breakUp_19 rfl ?_
              refine tm_get (C := RX1) (T := TX1) (N := 12) (v := .int (M o0 9)) hx hb hts nX1_breakUp_X1 hown hK hP (hF _ (tm_lt g1)) (tm_mkX1 g1 _) rfl 9 (by decide) (hts _ kX1_breakUp_6) rfl dX1_breakUp_20 ?_
              refine lv_iconst (v := 0) hx hb dX1_breakUp_23 (by decide) ?_
              refine lv_aload_n hx hb dX1_breakUp_24 rfl (lv_at hl 0 rfl) ?_
              refine tm_get (C := RX1) (T := TX1) (N := 12) (v := .int (M o0 2)) hx hb hts nX1_breakUp_X1 hown hK hP (hF _ (tm_lt g1)) (tm_mkX1 g1 _) rfl 2 (by decide) (hts _ kX1_breakUp_3) rfl dX1_breakUp_25 ?_
              refine lv_aload_n hx hb dX1_breakUp_28 rfl (lv_at hl 2 rfl) ?_
              refine tm_get (C := RX6) (T := TX6) (N := 6) (v := .int (M o2 1)) hx hb hts nX1_breakUp_X6 hown hK hP (hF _ (tm_lt g2)) (tm_mkX6 g2 _) rfl 1 (by decide) (hts _ kX1_breakUp_7) rfl dX1_breakUp_29 ?_
              refine va_mmin hx hb (hml.trans hl.1.symm) hown (hts _ kX1_breakUp_8) (hts _ kX1_breakUp_9) (hts _ kX1_breakUp_10) (hts _ kX1_breakUp_11) (Nat.le_of_ble_eq_true rfl) (Nat.le_of_ble_eq_true rfl) (Nat.zero_le _) (Nat.zero_le _) dX1_breakUp_32 ?_
              refine lv_aload_n hx hb dX1_breakUp_35 rfl (lv_at hl 2 rfl) ?_
              refine tm_get (C := RX6) (T := TX6) (N := 6) (v := .int (M o2 0)) hx hb hts nX1_breakUp_X6 hown hK hP (hF _ (tm_lt g2)) (tm_mkX6 g2 _) rfl 0 (by decide) (hts _ kX1_breakUp_12) rfl dX1_breakUp_36 ?_
              refine lv_isub hx hb dX1_breakUp_39 ?_
              refine va_mmax hx hb (hml.trans hl.1.symm) hown (hts _ kX1_breakUp_13) (hts _ kX1_breakUp_14) (hts _ kX1_breakUp_10) (hts _ kX1_breakUp_15) (Nat.le_of_ble_eq_true rfl) (Nat.le_of_ble_eq_true rfl) (Nat.zero_le _) (Nat.zero_le _) dX1_breakUp_40 ?_
              refine lv_iadd hx hb dX1_breakUp_43 ?_
              obtain ⟨M91, e92, h⟩ := tm_bd_some h
              refine tm_put (C := RX1) (T := TX1) (N := 12) (ty := .int) (x := (M o0 9) + (if 0 < ((if (M o2 1) < (M o0 2) then (M o2 1) else (M o0 2)) - (M o2 0)) then ((if (M o2 1) < (M o0 2) then (M o2 1) else (M o0 2)) - (M o2 0)) else 0)) hx hb hts nX1_breakUp_X1 tyX1 tyX1_ok nmX1 hown hK hP hD hS (hF _ (tm_lt g1)) (tm_mkX1 g1) rfl 9 (by decide) (hts _ kX1_breakUp_6) rfl (by decide +kernel) rfl rfl (Nat.le_of_ble_eq_true rfl) rfl (Option.some.inj e92) dX1_breakUp_44 (fun H locs hP hS => ?_)
              refine lv_aload_n hx hb dX1_breakUp_47 rfl (lv_at hl 0 rfl) ?_
              refine lv_dup hx hb dX1_breakUp_48 rfl ?_
              refine tm_get (C := RX1) (T := TX1) (N := 12) (v := .int (M91 o0 5)) hx hb hts nX1_breakUp_X1 hown hK hP (hF _ (tm_lt g1)) (tm_mkX1 g1 _) rfl 5 (by decide) (hts _ kX1_breakUp_1) rfl dX1_breakUp_49 ?_
              refine lv_iconst (v := 1) hx hb dX1_breakUp_52 (by decide) ?_
              refine lv_iadd hx hb dX1_breakUp_53 ?_
              obtain ⟨M93, e94, h⟩ := tm_bd_some h
              refine tm_put (C := RX1) (T := TX1) (N := 12) (ty := .int) (x := (M91 o0 5) + 1) hx hb hts nX1_breakUp_X1 tyX1 tyX1_ok nmX1 hown hK hP hD hS (hF _ (tm_lt g1)) (tm_mkX1 g1) rfl 5 (by decide) (hts _ kX1_breakUp_1) rfl (by decide +kernel) rfl rfl (Nat.le_of_ble_eq_true rfl) rfl (Option.some.inj e94) dX1_breakUp_54 (fun H locs hP hS => ?_)
              refine lv_aload_n hx hb dX1_breakUp_57 rfl (lv_at hl 0 rfl) ?_
              refine lv_iload_n hx hb dX1_breakUp_58 rfl (lv_at hl 1 rfl) ?_
              obtain ⟨M95, e96, h⟩ := tm_bd_some h
              refine tm_put (C := RX1) (T := TX1) (N := 12) (ty := .int) (x := p1) hx hb hts nX1_breakUp_X1 tyX1 tyX1_ok nmX1 hown hK hP hD hS (hF _ (tm_lt g1)) (tm_mkX1 g1) rfl 10 (by decide) (hts _ kX1_breakUp_2) rfl (by decide +kernel) rfl rfl (Nat.le_of_ble_eq_true rfl) rfl (Option.some.inj e96) dX1_breakUp_59 (fun H locs hP hS => ?_)
              refine lv_aload_n hx hb dX1_breakUp_62 rfl (lv_at hl 0 rfl) ?_
              refine lv_iconst (v := 0) hx hb dX1_breakUp_63 (by decide) ?_
              obtain ⟨M97, e98, h⟩ := tm_bd_some h
              refine tm_put (C := RX1) (T := TX1) (N := 12) (ty := .int) (x := 0) hx hb hts nX1_breakUp_X1 tyX1 tyX1_ok nmX1 hown hK hP hD hS (hF _ (tm_lt g1)) (tm_mkX1 g1) rfl 2 (by decide) (hts _ kX1_breakUp_3) rfl (by decide +kernel) rfl rfl (Nat.le_of_ble_eq_true rfl) rfl (Option.some.inj e98) dX1_breakUp_64 (fun H locs hP hS => ?_)
              refine lv_aload_n hx hb dX1_breakUp_67 rfl (lv_at hl 0 rfl) ?_
              refine lv_iconst (v := 0) hx hb dX1_breakUp_68 (by decide) ?_
              obtain ⟨M99, e100, h⟩ := tm_bd_some h
              refine tm_put (C := RX1) (T := TX1) (N := 12) (ty := .int) (x := 0) hx hb hts nX1_breakUp_X1 tyX1 tyX1_ok nmX1 hown hK hP hD hS (hF _ (tm_lt g1)) (tm_mkX1 g1) rfl 3 (by decide) (hts _ kX1_breakUp_4) rfl (by decide +kernel) rfl rfl (Nat.le_of_ble_eq_true rfl) rfl (Option.some.inj e100) dX1_breakUp_69 (fun H locs hP hS => ?_)
              exact tm_vret C0 (Option.some.inj h) hP hS dX1_breakUp_72
          · rw [if_neg s79] at h
            cases h
/-! X5_gain -/
theorem nX5_gain_X1 : ∀ w ∈ wsX10, w ∈ wsX5_gain := by decide +kernel
theorem kX5_gain_0 : Cond.fieldLink RX5 13 "QuarrelDesk$Life" "temper" "I" ∈ wsX5_gain := by decide +kernel
def f_X5_gain (M : tm_M) (o0 : Nat) (o1 : Nat) (p2 : Int32) : Option Int32 :=
  tm_gd (tm_shp o1 = 0) <|
  (f_X0_isSunday p2).bind fun r2 =>
  if r2 = 0 then
    some (M o1 1)
  else
    some (2 * (M o1 1))
set_option maxHeartbeats 4000000 in
set_option maxRecDepth 100000 in
theorem c_X5_gain (l : Launch) (g : tm_G) (A : Nat → Prop) (L : List Nat) (hD : ∀ M, va_D A (tm_ws g L M)) (hF : ∀ o, tm_all o → o ∈ L) (M : tm_M) (o0 : Nat) (o1 : Nat) (p2 : Int32) (r0 : Int32) (h : f_X5_gain M o0 o1 p2 = some r0) : Met l yX5_gain wsX5_gain { frames := 1, cells := 0, slots := 0, locals := 20 } (tm_PC g A L M [.ref (g.2.2 + o0), .ref (g.2.2 + o1), .int p2]) (tm_QI g A L (r0, M)) 0 0 A := by
  refine tm_start (cc := cX5_gain) (nL := 3) (ret := (some .int)) (F := tm_all) (plainFor_of_name (by decide)) rfl (Nat.le_of_ble_eq_true rfl) hD hF (fun p e s m args below meth c ls C0 hP hS hl => ?_)
  have hl : lv_has ls 3 [(0, .ref (g.2.2 + o0)), (1, .ref (g.2.2 + o1)), (2, .int p2)] := hl
  have C0 : tm_C p m c cX5_gain 3 s args wsX5_gain RX5 meth (some .int) g A L tm_all := C0
  obtain ⟨⟨hx, hb, hml, hown, hts⟩, hr, hlk, hK, hD, hG, hF⟩ := id C0
  unfold f_X5_gain at h
  obtain ⟨g1, h⟩ := tm_gd_some h
  refine lv_iload_n hx hb dX5_gain_0 rfl (lv_at hl 2 rfl) ?_
  obtain ⟨r2, e3, h⟩ := tm_bd_some h
  refine tm_backI (r0 := r2) (M0 := M) (fun _ q => q) (tm_callSUp (As := [.int p2]) (rest := []) ⟨hx, hb, hml, hown, hts⟩ hK hG hP hS (c_X0_isSunday l g A L hD hF M p2 r2 e3) ⟨Nat.le_of_ble_eq_true rfl, Nat.le_of_ble_eq_true rfl⟩ rfl hl.1 (lv_room (Nat.le_of_ble_eq_true rfl)) dX5_gain_1 ⟨Nat.zero_le _, Nat.zero_le _⟩) hS (fun H locs hP hS => ?_)
  refine lv_if_eq (tgt := 16) hx hb dX5_gain_4 (by decide) (fun c4 => ?_) (fun c4 => ?_)
  · rw [if_pos c4] at h
    refine lv_aload_n hx hb dX5_gain_16 rfl (lv_at hl 1 rfl) ?_
    refine tm_get (C := RX1) (T := TX1) (N := 12) (v := .int (M o1 1)) hx hb hts nX5_gain_X1 hown hK hP (hF _ (tm_lt g1)) (tm_mkX1 g1 _) rfl 1 (by decide) (hts _ kX5_gain_0) rfl dX5_gain_17 ?_
    exact tm_iret C0 (by rw [Option.some.inj h]) hP hS dX5_gain_20
  · rw [if_neg c4] at h
    refine lv_iconst (v := 2) hx hb dX5_gain_7 (by decide) ?_
    refine lv_aload_n hx hb dX5_gain_8 rfl (lv_at hl 1 rfl) ?_
    refine tm_get (C := RX1) (T := TX1) (N := 12) (v := .int (M o1 1)) hx hb hts nX5_gain_X1 hown hK hP (hF _ (tm_lt g1)) (tm_mkX1 g1 _) rfl 1 (by decide) (hts _ kX5_gain_0) rfl dX5_gain_9 ?_
    refine lv_imul hx hb dX5_gain_12 ?_
    refine lv_goto (tgt := 20) hx hb dX5_gain_13 (by decide) ?_
    exact tm_iret C0 (by rw [Option.some.inj h]) hP hS dX5_gain_20
/-! X1_isCalm -/
theorem nX1_isCalm_X1 : ∀ w ∈ wsX10, w ∈ wsX1_isCalm := by decide +kernel
theorem kX1_isCalm_0 : Cond.fieldLink RX1 48 "QuarrelDesk$Life" "lastBreak" "I" ∈ wsX1_isCalm := by decide +kernel
def f_X1_isCalm (M : tm_M) (o0 : Nat) (p1 : Int32) : Option Int32 :=
  tm_gd (tm_shp o0 = 0) <|
  if (M o0 10) = (-1) then
    if p1 < 10 then
      some 0
    else
      some 1
  else
    if (p1 - (M o0 10)) < 10 then
      some 0
    else
      some 1
set_option maxHeartbeats 4000000 in
set_option maxRecDepth 100000 in
theorem c_X1_isCalm (l : Launch) (g : tm_G) (A : Nat → Prop) (L : List Nat) (hD : ∀ M, va_D A (tm_ws g L M)) (hF : ∀ o, tm_all o → o ∈ L) (M : tm_M) (o0 : Nat) (p1 : Int32) (r0 : Int32) (h : f_X1_isCalm M o0 p1 = some r0) : Met l yX1_isCalm wsX1_isCalm { frames := 0, cells := 0, slots := 0, locals := 0 } (tm_PC g A L M [.ref (g.2.2 + o0), .int p1]) (tm_QI g A L (r0, M)) 0 0 A := by
  refine tm_start (cc := cX1_isCalm) (nL := 2) (ret := (some .boolean)) (F := tm_all) (plainFor_of_name (by decide)) rfl (Nat.le_of_ble_eq_true rfl) hD hF (fun p e s m args below meth c ls C0 hP hS hl => ?_)
  have hl : lv_has ls 2 [(0, .ref (g.2.2 + o0)), (1, .int p1)] := hl
  have C0 : tm_C p m c cX1_isCalm 2 s args wsX1_isCalm RX1 meth (some .boolean) g A L tm_all := C0
  obtain ⟨⟨hx, hb, hml, hown, hts⟩, hr, hlk, hK, hD, hG, hF⟩ := id C0
  unfold f_X1_isCalm at h
  obtain ⟨g1, h⟩ := tm_gd_some h
  refine lv_aload_n hx hb dX1_isCalm_0 rfl (lv_at hl 0 rfl) ?_
  refine tm_get (C := RX1) (T := TX1) (N := 12) (v := .int (M o0 10)) hx hb hts nX1_isCalm_X1 hown hK hP (hF _ (tm_lt g1)) (tm_mkX1 g1 _) rfl 10 (by decide) (hts _ kX1_isCalm_0) rfl dX1_isCalm_1 ?_
  refine lv_iconst (v := (-1)) hx hb dX1_isCalm_4 (by decide) ?_
  refine lv_icmp_ne (tgt := 22) hx hb dX1_isCalm_5 (by decide) (fun c2 => ?_) (fun c2 => ?_)
  · rw [if_neg c2] at h
    refine lv_iload_n hx hb dX1_isCalm_22 rfl (lv_at hl 1 rfl) ?_
    refine lv_aload_n hx hb dX1_isCalm_23 rfl (lv_at hl 0 rfl) ?_
    refine tm_get (C := RX1) (T := TX1) (N := 12) (v := .int (M o0 10)) hx hb hts nX1_isCalm_X1 hown hK hP (hF _ (tm_lt g1)) (tm_mkX1 g1 _) rfl 10 (by decide) (hts _ kX1_isCalm_0) rfl dX1_isCalm_24 ?_
    refine lv_isub hx hb dX1_isCalm_27 ?_
    refine lv_bipush (v := 10) hx hb dX1_isCalm_28 (by decide) ?_
    refine lv_icmp_lt (tgt := 37) hx hb dX1_isCalm_30 (by decide) (fun c3 => ?_) (fun c3 => ?_)
    · rw [if_pos c3] at h
      refine lv_iconst (v := 0) hx hb dX1_isCalm_37 (by decide) ?_
      exact tm_zret C0 (by unfold tm_isB; decide) (by rw [Option.some.inj h]) hP hS dX1_isCalm_38
    · rw [if_neg c3] at h
      refine lv_iconst (v := 1) hx hb dX1_isCalm_33 (by decide) ?_
      refine lv_goto (tgt := 38) hx hb dX1_isCalm_34 (by decide) ?_
      exact tm_zret C0 (by unfold tm_isB; decide) (by rw [Option.some.inj h]) hP hS dX1_isCalm_38
  · rw [if_pos c2] at h
    refine lv_iload_n hx hb dX1_isCalm_8 rfl (lv_at hl 1 rfl) ?_
    refine lv_bipush (v := 10) hx hb dX1_isCalm_9 (by decide) ?_
    refine lv_icmp_lt (tgt := 18) hx hb dX1_isCalm_11 (by decide) (fun c4 => ?_) (fun c4 => ?_)
    · rw [if_pos c4] at h
      refine lv_iconst (v := 0) hx hb dX1_isCalm_18 (by decide) ?_
      refine lv_goto (tgt := 38) hx hb dX1_isCalm_19 (by decide) ?_
      exact tm_zret C0 (by unfold tm_isB; decide) (by rw [Option.some.inj h]) hP hS dX1_isCalm_38
    · rw [if_neg c4] at h
      refine lv_iconst (v := 1) hx hb dX1_isCalm_14 (by decide) ?_
      refine lv_goto (tgt := 38) hx hb dX1_isCalm_15 (by decide) ?_
      exact tm_zret C0 (by unfold tm_isB; decide) (by rw [Option.some.inj h]) hP hS dX1_isCalm_38
/-! X1_payTiff -/
theorem nX1_payTiff_X1 : ∀ w ∈ wsX10, w ∈ wsX1_payTiff := by decide +kernel
theorem kX1_payTiff_0 : Cond.fieldLink RX1 42 "QuarrelDesk$Life" "paid" "I" ∈ wsX1_payTiff := by decide +kernel
theorem nX1_payTiff_X6 : ∀ w ∈ wsX60, w ∈ wsX1_payTiff := by decide +kernel
theorem kX1_payTiff_1 : Cond.fieldLink RX1 102 "QuarrelDesk$Terms" "premium" "I" ∈ wsX1_payTiff := by decide +kernel
theorem kX1_payTiff_2 : Cond.fieldLink RX1 36 "QuarrelDesk$Life" "tiffs" "I" ∈ wsX1_payTiff := by decide +kernel
theorem kX1_payTiff_3 : Cond.fieldLink RX1 51 "QuarrelDesk$Life" "hadTiff" "Z" ∈ wsX1_payTiff := by decide +kernel
theorem kX1_payTiff_4 : Cond.fieldLink RX1 23 "QuarrelDesk$Life" "strain" "I" ∈ wsX1_payTiff := by decide +kernel
theorem kX1_payTiff_5 : Cond.fieldLink RX1 105 "QuarrelDesk$Terms" "relief" "I" ∈ wsX1_payTiff := by decide +kernel
theorem kX1_payTiff_6 : Cond.methodLink RX1 96 Lib.Math.max.name ∈ wsX1_payTiff := by decide +kernel
theorem kX1_payTiff_7 : Cond.static Lib.Math.max.name ∈ wsX1_payTiff := by decide +kernel
theorem kX1_payTiff_8 : Cond.initialized "java/lang/Math" ∈ wsX1_payTiff := by decide +kernel
theorem kX1_payTiff_9 : Cond.code Lib.Math.max.name Lib.Math.max.code 2 (some .int) ∈ wsX1_payTiff := by decide +kernel
theorem kX1_payTiff_10 : Cond.fieldLink RX1 39 "QuarrelDesk$Life" "halved" "I" ∈ wsX1_payTiff := by decide +kernel
def f_X1_payTiff (M : tm_M) (o0 : Nat) (p1 : Int32) (o2 : Nat) : Option tm_M :=
  tm_gd (tm_shp o0 = 0) <|
  tm_gd (tm_shp o2 = 5) <|
  (f_X1_isCalm M o0 p1).bind fun r3 =>
  if r3 = 0 then
    (some (tm_st M o0 8 ((M o0 8) + (M o2 2)))).bind fun M6 =>
    (some (tm_st M6 o0 6 ((M6 o0 6) + 1))).bind fun M8 =>
    (some (tm_st M8 o0 11 1)).bind fun M10 =>
    (some (tm_st M10 o0 2 (if 0 < ((M10 o0 2) - (M10 o2 5)) then ((M10 o0 2) - (M10 o2 5)) else 0))).bind fun M12 =>
    some M12
  else
    (some (tm_st M o0 7 ((M o0 7) + 1))).bind fun M14 =>
    (some (tm_st M14 o0 8 ((M14 o0 8) + ((M14 o2 2) / 2)))).bind fun M16 =>
    (some (tm_st M16 o0 6 ((M16 o0 6) + 1))).bind fun M18 =>
    (some (tm_st M18 o0 11 1)).bind fun M20 =>
    (some (tm_st M20 o0 2 (if 0 < ((M20 o0 2) - (M20 o2 5)) then ((M20 o0 2) - (M20 o2 5)) else 0))).bind fun M22 =>
    some M22
set_option maxHeartbeats 4000000 in
set_option maxRecDepth 100000 in
theorem c_X1_payTiff (l : Launch) (g : tm_G) (A : Nat → Prop) (L : List Nat) (hD : ∀ M, va_D A (tm_ws g L M)) (hF : ∀ o, tm_all o → o ∈ L) (M : tm_M) (o0 : Nat) (p1 : Int32) (o2 : Nat) (M0 : tm_M) (h : f_X1_payTiff M o0 p1 o2 = some M0) : Met l yX1_payTiff wsX1_payTiff { frames := 1, cells := 0, slots := 0, locals := 21 } (tm_PC g A L M [.ref (g.2.2 + o0), .int p1, .ref (g.2.2 + o2)]) (tm_QV g A L M0) 0 0 A := by
  refine tm_start (cc := cX1_payTiff) (nL := 3) (ret := none) (F := tm_all) (plainFor_of_name (by decide)) rfl (Nat.le_of_ble_eq_true rfl) hD hF (fun p e s m args below meth c ls C0 hP hS hl => ?_)
  have hl : lv_has ls 3 [(0, .ref (g.2.2 + o0)), (1, .int p1), (2, .ref (g.2.2 + o2))] := hl
  have C0 : tm_C p m c cX1_payTiff 3 s args wsX1_payTiff RX1 meth none g A L tm_all := C0
  obtain ⟨⟨hx, hb, hml, hown, hts⟩, hr, hlk, hK, hD, hG, hF⟩ := id C0
  unfold f_X1_payTiff at h
  obtain ⟨g1, h⟩ := tm_gd_some h
  obtain ⟨g2, h⟩ := tm_gd_some h
  refine lv_aload_n hx hb dX1_payTiff_0 rfl (lv_at hl 0 rfl) ?_
  refine lv_iload_n hx hb dX1_payTiff_1 rfl (lv_at hl 1 rfl) ?_
  obtain ⟨r3, e4, h⟩ := tm_bd_some h
  refine tm_backI (r0 := r3) (M0 := M) (fun _ q => q) (tm_callV (As := [.int p1]) (rest := []) ⟨hx, hb, hml, hown, hts⟩ hK hG hP hS (c_X1_isCalm l g A L hD hF M o0 p1 r3 e4) (cwV 1 hts gX1_payTiff_X1_isCalm rfl rfl rfl (by decide +kernel) ⟨Nat.le_of_ble_eq_true rfl, Nat.le_of_ble_eq_true rfl⟩) (tm_recv hK hP (hF _ (tm_lt g1)) (ci := 0) rfl (tm_mkX1 g1 _)) rfl hl.1 (lv_room (Nat.le_of_ble_eq_true rfl)) dX1_payTiff_2 ⟨Nat.zero_le _, Nat.zero_le _⟩) hS (fun H locs hP hS => ?_)
  refine lv_if_eq (tgt := 36) hx hb dX1_payTiff_5 (by decide) (fun c5 => ?_) (fun c5 => ?_)
  · rw [if_pos c5] at h
    refine lv_aload_n hx hb dX1_payTiff_36 rfl (lv_at hl 0 rfl) ?_
    refine lv_dup hx hb dX1_payTiff_37 rfl ?_
    refine tm_get (C := RX1) (T := TX1) (N := 12) (v := .int (M o0 8)) hx hb hts nX1_payTiff_X1 hown hK hP (hF _ (tm_lt g1)) (tm_mkX1 g1 _) rfl 8 (by decide) (hts _ kX1_payTiff_0) rfl dX1_payTiff_38 ?_
    refine lv_aload_n hx hb dX1_payTiff_41 rfl (lv_at hl 2 rfl) ?_
    refine tm_get (C := RX6) (T := TX6) (N := 6) (v := .int (M o2 2)) hx hb hts nX1_payTiff_X6 hown hK hP (hF _ (tm_lt g2)) (tm_mkX6 g2 _) rfl 2 (by decide) (hts _ kX1_payTiff_1) rfl dX1_payTiff_42 ?_
    refine lv_iadd hx hb dX1_payTiff_45 ?_
    obtain ⟨M6, e7, h⟩ := tm_bd_some h
    refine tm_put (C := RX1) (T := TX1) (N := 12) (ty := .int) (x := (M o0 8) + (M o2 2)) hx hb hts nX1_payTiff_X1 tyX1 tyX1_ok nmX1 hown hK hP hD hS (hF _ (tm_lt g1)) (tm_mkX1 g1) rfl 8 (by decide) (hts _ kX1_payTiff_0) rfl (by decide +kernel) rfl rfl (Nat.le_of_ble_eq_true rfl) rfl (Option.some.inj e7) dX1_payTiff_46 (fun H locs hP hS => ?_)
    refine lv_aload_n hx hb dX1_payTiff_49 rfl (lv_at hl 0 rfl) ?_
    refine lv_dup hx hb dX1_payTiff_50 rfl ?_
    refine tm_get (C := RX1) (T := TX1) (N := 12) (v := .int (M6 o0 6)) hx hb hts nX1_payTiff_X1 hown hK hP (hF _ (tm_lt g1)) (tm_mkX1 g1 _) rfl 6 (by decide) (hts _ kX1_payTiff_2) rfl dX1_payTiff_51 ?_
    refine lv_iconst (v := 1) hx hb dX1_payTiff_54 (by decide) ?_
    refine lv_iadd hx hb dX1_payTiff_55 ?_
    obtain ⟨M8, e9, h⟩ := tm_bd_some h
    refine tm_put (C := RX1) (T := TX1) (N := 12) (ty := .int) (x := (M6 o0 6) + 1) hx hb hts nX1_payTiff_X1 tyX1 tyX1_ok nmX1 hown hK hP hD hS (hF _ (tm_lt g1)) (tm_mkX1 g1) rfl 6 (by decide) (hts _ kX1_payTiff_2) rfl (by decide +kernel) rfl rfl (Nat.le_of_ble_eq_true rfl) rfl (Option.some.inj e9) dX1_payTiff_56 (fun H locs hP hS => ?_)
    refine lv_aload_n hx hb dX1_payTiff_59 rfl (lv_at hl 0 rfl) ?_
    refine lv_iconst (v := 1) hx hb dX1_payTiff_60 (by decide) ?_
    obtain ⟨M10, e11, h⟩ := tm_bd_some h
    refine tm_put (C := RX1) (T := TX1) (N := 12) (ty := .boolean) (x := 1) hx hb hts nX1_payTiff_X1 tyX1 tyX1_ok nmX1 hown hK hP hD hS (hF _ (tm_lt g1)) (tm_mkX1 g1) rfl 11 (by decide) (hts _ kX1_payTiff_3) rfl (by decide +kernel) rfl rfl (Nat.le_of_ble_eq_true rfl) rfl (Option.some.inj e11) dX1_payTiff_61 (fun H locs hP hS => ?_)
    refine lv_aload_n hx hb dX1_payTiff_64 rfl (lv_at hl 0 rfl) ?_
    refine lv_iconst (v := 0) hx hb dX1_payTiff_65 (by decide) ?_
    refine lv_aload_n hx hb dX1_payTiff_66 rfl (lv_at hl 0 rfl) ?_
    refine tm_get (C := RX1) (T := TX1) (N := 12) (v := .int (M10 o0 2)) hx hb hts nX1_payTiff_X1 hown hK hP (hF _ (tm_lt g1)) (tm_mkX1 g1 _) rfl 2 (by decide) (hts _ kX1_payTiff_4) rfl dX1_payTiff_67 ?_
    refine lv_aload_n hx hb dX1_payTiff_70 rfl (lv_at hl 2 rfl) ?_
    refine tm_get (C := RX6) (T := TX6) (N := 6) (v := .int (M10 o2 5)) hx hb hts nX1_payTiff_X6 hown hK hP (hF _ (tm_lt g2)) (tm_mkX6 g2 _) rfl 5 (by decide) (hts _ kX1_payTiff_5) rfl dX1_payTiff_71 ?_
    refine lv_isub hx hb dX1_payTiff_74 ?_
    refine va_mmax hx hb (hml.trans hl.1.symm) hown (hts _ kX1_payTiff_6) (hts _ kX1_payTiff_7) (hts _ kX1_payTiff_8) (hts _ kX1_payTiff_9) (Nat.le_of_ble_eq_true rfl) (Nat.le_of_ble_eq_true rfl) (Nat.zero_le _) (Nat.zero_le _) dX1_payTiff_75 ?_
    obtain ⟨M12, e13, h⟩ := tm_bd_some h
    refine tm_put (C := RX1) (T := TX1) (N := 12) (ty := .int) (x := (if 0 < ((M10 o0 2) - (M10 o2 5)) then ((M10 o0 2) - (M10 o2 5)) else 0)) hx hb hts nX1_payTiff_X1 tyX1 tyX1_ok nmX1 hown hK hP hD hS (hF _ (tm_lt g1)) (tm_mkX1 g1) rfl 2 (by decide) (hts _ kX1_payTiff_4) rfl (by decide +kernel) rfl rfl (Nat.le_of_ble_eq_true rfl) rfl (Option.some.inj e13) dX1_payTiff_78 (fun H locs hP hS => ?_)
    exact tm_vret C0 (Option.some.inj h) hP hS dX1_payTiff_81
  · rw [if_neg c5] at h
    refine lv_aload_n hx hb dX1_payTiff_8 rfl (lv_at hl 0 rfl) ?_
    refine lv_dup hx hb dX1_payTiff_9 rfl ?_
    refine tm_get (C := RX1) (T := TX1) (N := 12) (v := .int (M o0 7)) hx hb hts nX1_payTiff_X1 hown hK hP (hF _ (tm_lt g1)) (tm_mkX1 g1 _) rfl 7 (by decide) (hts _ kX1_payTiff_10) rfl dX1_payTiff_10 ?_
    refine lv_iconst (v := 1) hx hb dX1_payTiff_13 (by decide) ?_
    refine lv_iadd hx hb dX1_payTiff_14 ?_
    obtain ⟨M14, e15, h⟩ := tm_bd_some h
    refine tm_put (C := RX1) (T := TX1) (N := 12) (ty := .int) (x := (M o0 7) + 1) hx hb hts nX1_payTiff_X1 tyX1 tyX1_ok nmX1 hown hK hP hD hS (hF _ (tm_lt g1)) (tm_mkX1 g1) rfl 7 (by decide) (hts _ kX1_payTiff_10) rfl (by decide +kernel) rfl rfl (Nat.le_of_ble_eq_true rfl) rfl (Option.some.inj e15) dX1_payTiff_15 (fun H locs hP hS => ?_)
    refine lv_aload_n hx hb dX1_payTiff_18 rfl (lv_at hl 0 rfl) ?_
    refine lv_dup hx hb dX1_payTiff_19 rfl ?_
    refine tm_get (C := RX1) (T := TX1) (N := 12) (v := .int (M14 o0 8)) hx hb hts nX1_payTiff_X1 hown hK hP (hF _ (tm_lt g1)) (tm_mkX1 g1 _) rfl 8 (by decide) (hts _ kX1_payTiff_0) rfl dX1_payTiff_20 ?_
    refine lv_aload_n hx hb dX1_payTiff_23 rfl (lv_at hl 2 rfl) ?_
    refine tm_get (C := RX6) (T := TX6) (N := 6) (v := .int (M14 o2 2)) hx hb hts nX1_payTiff_X6 hown hK hP (hF _ (tm_lt g2)) (tm_mkX6 g2 _) rfl 2 (by decide) (hts _ kX1_payTiff_1) rfl dX1_payTiff_24 ?_
    refine lv_iconst (v := 2) hx hb dX1_payTiff_27 (by decide) ?_
    refine lv_idiv hx hb dX1_payTiff_28 (by decide) ?_
    refine lv_iadd hx hb dX1_payTiff_29 ?_
    obtain ⟨M16, e17, h⟩ := tm_bd_some h
    refine tm_put (C := RX1) (T := TX1) (N := 12) (ty := .int) (x := (M14 o0 8) + ((M14 o2 2) / 2)) hx hb hts nX1_payTiff_X1 tyX1 tyX1_ok nmX1 hown hK hP hD hS (hF _ (tm_lt g1)) (tm_mkX1 g1) rfl 8 (by decide) (hts _ kX1_payTiff_0) rfl (by decide +kernel) rfl rfl (Nat.le_of_ble_eq_true rfl) rfl (Option.some.inj e17) dX1_payTiff_30 (fun H locs hP hS => ?_)
    refine lv_goto (tgt := 49) hx hb dX1_payTiff_33 (by decide) ?_
    refine lv_aload_n hx hb dX1_payTiff_49 rfl (lv_at hl 0 rfl) ?_
    refine lv_dup hx hb dX1_payTiff_50 rfl ?_
    refine tm_get (C := RX1) (T := TX1) (N := 12) (v := .int (M16 o0 6)) hx hb hts nX1_payTiff_X1 hown hK hP (hF _ (tm_lt g1)) (tm_mkX1 g1 _) rfl 6 (by decide) (hts _ kX1_payTiff_2) rfl dX1_payTiff_51 ?_
    refine lv_iconst (v := 1) hx hb dX1_payTiff_54 (by decide) ?_
    refine lv_iadd hx hb dX1_payTiff_55 ?_
    obtain ⟨M18, e19, h⟩ := tm_bd_some h
    refine tm_put (C := RX1) (T := TX1) (N := 12) (ty := .int) (x := (M16 o0 6) + 1) hx hb hts nX1_payTiff_X1 tyX1 tyX1_ok nmX1 hown hK hP hD hS (hF _ (tm_lt g1)) (tm_mkX1 g1) rfl 6 (by decide) (hts _ kX1_payTiff_2) rfl (by decide +kernel) rfl rfl (Nat.le_of_ble_eq_true rfl) rfl (Option.some.inj e19) dX1_payTiff_56 (fun H locs hP hS => ?_)
    refine lv_aload_n hx hb dX1_payTiff_59 rfl (lv_at hl 0 rfl) ?_
    refine lv_iconst (v := 1) hx hb dX1_payTiff_60 (by decide) ?_
    obtain ⟨M20, e21, h⟩ := tm_bd_some h
    refine tm_put (C := RX1) (T := TX1) (N := 12) (ty := .boolean) (x := 1) hx hb hts nX1_payTiff_X1 tyX1 tyX1_ok nmX1 hown hK hP hD hS (hF _ (tm_lt g1)) (tm_mkX1 g1) rfl 11 (by decide) (hts _ kX1_payTiff_3) rfl (by decide +kernel) rfl rfl (Nat.le_of_ble_eq_true rfl) rfl (Option.some.inj e21) dX1_payTiff_61 (fun H locs hP hS => ?_)
    refine lv_aload_n hx hb dX1_payTiff_64 rfl (lv_at hl 0 rfl) ?_
    refine lv_iconst (v := 0) hx hb dX1_payTiff_65 (by decide) ?_
    refine lv_aload_n hx hb dX1_payTiff_66 rfl (lv_at hl 0 rfl) ?_
    refine tm_get (C := RX1) (T := TX1) (N := 12) (v := .int (M20 o0 2)) hx hb hts nX1_payTiff_X1 hown hK hP (hF _ (tm_lt g1)) (tm_mkX1 g1 _) rfl 2 (by decide) (hts _ kX1_payTiff_4) rfl dX1_payTiff_67 ?_
    refine lv_aload_n hx hb dX1_payTiff_70 rfl (lv_at hl 2 rfl) ?_
    refine tm_get (C := RX6) (T := TX6) (N := 6) (v := .int (M20 o2 5)) hx hb hts nX1_payTiff_X6 hown hK hP (hF _ (tm_lt g2)) (tm_mkX6 g2 _) rfl 5 (by decide) (hts _ kX1_payTiff_5) rfl dX1_payTiff_71 ?_
    refine lv_isub hx hb dX1_payTiff_74 ?_
    refine va_mmax hx hb (hml.trans hl.1.symm) hown (hts _ kX1_payTiff_6) (hts _ kX1_payTiff_7) (hts _ kX1_payTiff_8) (hts _ kX1_payTiff_9) (Nat.le_of_ble_eq_true rfl) (Nat.le_of_ble_eq_true rfl) (Nat.zero_le _) (Nat.zero_le _) dX1_payTiff_75 ?_
    obtain ⟨M22, e23, h⟩ := tm_bd_some h
    refine tm_put (C := RX1) (T := TX1) (N := 12) (ty := .int) (x := (if 0 < ((M20 o0 2) - (M20 o2 5)) then ((M20 o0 2) - (M20 o2 5)) else 0)) hx hb hts nX1_payTiff_X1 tyX1 tyX1_ok nmX1 hown hK hP hD hS (hF _ (tm_lt g1)) (tm_mkX1 g1) rfl 2 (by decide) (hts _ kX1_payTiff_4) rfl (by decide +kernel) rfl rfl (Nat.le_of_ble_eq_true rfl) rfl (Option.some.inj e23) dX1_payTiff_78 (fun H locs hP hS => ?_)
    exact tm_vret C0 (Option.some.inj h) hP hS dX1_payTiff_81
