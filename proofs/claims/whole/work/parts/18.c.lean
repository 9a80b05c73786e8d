/-! X2_quarrel -/
def f_X2_quarrel (M : tm_M) (o0 : Nat) (o1 : Nat) (p2 : Int32) (o3 : Nat) : Option tm_M :=
  tm_gd (tm_shp o1 = 0) <|
  tm_gd (tm_shp o3 = 5) <|
  (f_X1_payTiff M o1 p2 o3).bind fun M5 =>
  some M5
set_option maxHeartbeats 4000000 in
set_option maxRecDepth 100000 in
theorem c_X2_quarrel (l : Launch) (g : tm_G) (A : Nat → Prop) (L : List Nat) (hD : ∀ M, va_D A (tm_ws g L M)) (hF : ∀ o, tm_all o → o ∈ L) (M : tm_M) (o0 : Nat) (o1 : Nat) (p2 : Int32) (o3 : Nat) (M0 : tm_M) (h : f_X2_quarrel M o0 o1 p2 o3 = some M0) : Met l yX2_quarrel wsX2_quarrel { frames := 2, cells := 0, slots := 0, locals := 43 } (tm_PC g A L M [.ref (g.2.2 + o0), .ref (g.2.2 + o1), .int p2, .ref (g.2.2 + o3)]) (tm_QV g A L M0) 0 0 A := by
  refine tm_start (cc := cX2_quarrel) (nL := 4) (ret := none) (F := tm_all) (plainFor_of_name (by decide)) rfl (Nat.le_of_ble_eq_true rfl) hD hF (fun p e s m args below meth c ls C0 hP hS hl => ?_)
  have hl : lv_has ls 4 [(0, .ref (g.2.2 + o0)), (1, .ref (g.2.2 + o1)), (2, .int p2), (3, .ref (g.2.2 + o3))] := hl
  have C0 : tm_C p m c cX2_quarrel 4 s args wsX2_quarrel RX2 meth none g A L tm_all := C0
  obtain ⟨⟨hx, hb, hml, hown, hts⟩, hr, hlk, hK, hD, hG, hF⟩ := id C0
  unfold f_X2_quarrel at h
  obtain ⟨g1, h⟩ := tm_gd_some h
  obtain ⟨g2, h⟩ := tm_gd_some h
  refine lv_aload_n hx hb dX2_quarrel_0 rfl (lv_at hl 1 rfl) ?_
  refine lv_iload_n hx hb dX2_quarrel_1 rfl (lv_at hl 2 rfl) ?_
  refine lv_aload_n hx hb dX2_quarrel_2 rfl (lv_at hl 3 rfl) ?_
  obtain ⟨M5, e4, h⟩ := tm_bd_some h
  refine tm_backV (M0 := M5) (fun _ q => q) (tm_callV (As := [.int p2, .ref (g.2.2 + o3)]) (rest := []) ⟨hx, hb, hml, hown, hts⟩ hK hG hP hS (c_X1_payTiff l g A L hD hF M o1 p2 o3 M5 e4) (cwV 2 hts gX2_quarrel_X1_payTiff rfl rfl rfl (by decide +kernel) ⟨Nat.le_of_ble_eq_true rfl, Nat.le_of_ble_eq_true rfl⟩) (tm_recv hK hP (hF _ (tm_lt g1)) (ci := 0) rfl (tm_mkX1 g1 _)) rfl hl.1 (lv_room (Nat.le_of_ble_eq_true rfl)) dX2_quarrel_3 ⟨Nat.zero_le _, Nat.zero_le _⟩) hS (fun H locs hP hS => ?_)
  exact tm_vret C0 (Option.some.inj h) hP hS dX2_quarrel_6
/-! X1_sulk -/
theorem nX1_sulk_X1 : ∀ w ∈ wsX10, w ∈ wsX1_sulk := by decide +kernel
theorem kX1_sulk_0 : Cond.fieldLink RX1 26 "QuarrelDesk$Life" "silent" "I" ∈ wsX1_sulk := by decide +kernel
theorem kX1_sulk_1 : Cond.fieldLink RX1 29 "QuarrelDesk$Life" "isVoid" "Z" ∈ wsX1_sulk := by decide +kernel
def f_X1_sulk (M : tm_M) (o0 : Nat) : Option tm_M :=
  tm_gd (tm_shp o0 = 0) <|
  (some (tm_st M o0 3 ((M o0 3) + 1))).bind fun M2 =>
  if (M2 o0 3) < 3 then
    some M2
  else
    (some (tm_st M2 o0 4 1)).bind fun M5 =>
    some M5
set_option maxHeartbeats 4000000 in
set_option maxRecDepth 100000 in
theorem c_X1_sulk (l : Launch) (g : tm_G) (A : Nat → Prop) (L : List Nat) (hD : ∀ M, va_D A (tm_ws g L M)) (hF : ∀ o, tm_all o → o ∈ L) (M : tm_M) (o0 : Nat) (M0 : tm_M) (h : f_X1_sulk M o0 = some M0) : Met l yX1_sulk wsX1_sulk { frames := 0, cells := 0, slots := 0, locals := 0 } (tm_PC g A L M [.ref (g.2.2 + o0)]) (tm_QV g A L M0) 0 0 A := by
  refine tm_start (cc := cX1_sulk) (nL := 1) (ret := none) (F := tm_all) (plainFor_of_name (by decide)) rfl (Nat.le_of_ble_eq_true rfl) hD hF (fun p e s m args below meth c ls C0 hP hS hl => ?_)
  have hl : lv_has ls 1 [(0, .ref (g.2.2 + o0))] := hl
  have C0 : tm_C p m c cX1_sulk 1 s args wsX1_sulk RX1 meth none g A L tm_all := C0
  obtain ⟨⟨hx, hb, hml, hown, hts⟩, hr, hlk, hK, hD, hG, hF⟩ := id C0
  unfold f_X1_sulk at h
  obtain ⟨g1, h⟩ := tm_gd_some h
  refine lv_aload_n hx hb dX1_sulk_0 rfl (lv_at hl 0 rfl) ?_
  refine lv_dup hx hb dX1_sulk_1 rfl ?_
  refine tm_get (C := RX1) (T := TX1) (N := 12) (v := .int (M o0 3)) hx hb hts nX1_sulk_X1 hown hK hP (hF _ (tm_lt g1)) (tm_mkX1 g1 _) rfl 3 (by decide) (hts _ kX1_sulk_0) rfl dX1_sulk_2 ?_
  refine lv_iconst (v := 1) hx hb dX1_sulk_5 (by decide) ?_
  refine lv_iadd hx hb dX1_sulk_6 ?_
  obtain ⟨M2, e3, h⟩ := tm_bd_some h
  refine tm_put (C := RX1) (T := TX1) (N := 12) (ty := .int) (x := (M o0 3) + 1) hx hb hts nX1_sulk_X1 tyX1 tyX1_ok nmX1 hown hK hP hD hS (hF _ (tm_lt g1)) (tm_mkX1 g1) rfl 3 (by decide) (hts _ kX1_sulk_0) rfl (by decide +kernel) rfl rfl (Nat.le_of_ble_eq_true rfl) rfl (Option.some.inj e3) dX1_sulk_7 (fun H locs hP hS => ?_)
  refine lv_aload_n hx hb dX1_sulk_10 rfl (lv_at hl 0 rfl) ?_
  refine tm_get (C := RX1) (T := TX1) (N := 12) (v := .int (M2 o0 3)) hx hb hts nX1_sulk_X1 hown hK hP (hF _ (tm_lt g1)) (tm_mkX1 g1 _) rfl 3 (by decide) (hts _ kX1_sulk_0) rfl dX1_sulk_11 ?_
  refine lv_iconst (v := 3) hx hb dX1_sulk_14 (by decide) ?_
  refine lv_icmp_lt (tgt := 23) hx hb dX1_sulk_15 (by decide) (fun c4 => ?_) (fun c4 => ?_)
  · rw [if_pos c4] at h
    exact tm_vret C0 (Option.some.inj h) hP hS dX1_sulk_23
  · rw [if_neg c4] at h
    refine lv_aload_n hx hb dX1_sulk_18 rfl (lv_at hl 0 rfl) ?_
    refine lv_iconst (v := 1) hx hb dX1_sulk_19 (by decide) ?_
    obtain ⟨M5, e6, h⟩ := tm_bd_some h
    refine tm_put (C := RX1) (T := TX1) (N := 12) (ty := .boolean) (x := 1) hx hb hts nX1_sulk_X1 tyX1 tyX1_ok nmX1 hown hK hP hD hS (hF _ (tm_lt g1)) (tm_mkX1 g1) rfl 4 (by decide) (hts _ kX1_sulk_1) rfl (by decide +kernel) rfl rfl (Nat.le_of_ble_eq_true rfl) rfl (Option.some.inj e6) dX1_sulk_20 (fun H locs hP hS => ?_)
    exact tm_vret C0 (Option.some.inj h) hP hS dX1_sulk_23
/-! X4_quarrel -/
def f_X4_quarrel (M : tm_M) (o0 : Nat) (o1 : Nat) (p2 : Int32) (o3 : Nat) : Option tm_M :=
  tm_gd (tm_shp o1 = 0) <|
  tm_gd (tm_shp o3 = 5) <|
  (f_X1_sulk M o1).bind fun M5 =>
  some M5
set_option maxHeartbeats 4000000 in
set_option maxRecDepth 100000 in
theorem c_X4_quarrel (l : Launch) (g : tm_G) (A : Nat → Prop) (L : List Nat) (hD : ∀ M, va_D A (tm_ws g L M)) (hF : ∀ o, tm_all o → o ∈ L) (M : tm_M) (o0 : Nat) (o1 : Nat) (p2 : Int32) (o3 : Nat) (M0 : tm_M) (h : f_X4_quarrel M o0 o1 p2 o3 = some M0) : Met l yX4_quarrel wsX4_quarrel { frames := 1, cells := 0, slots := 0, locals := 20 } (tm_PC g A L M [.ref (g.2.2 + o0), .ref (g.2.2 + o1), .int p2, .ref (g.2.2 + o3)]) (tm_QV g A L M0) 0 0 A := by
  refine tm_start (cc := cX4_quarrel) (nL := 4) (ret := none) (F := tm_all) (plainFor_of_name (by decide)) rfl (Nat.le_of_ble_eq_true rfl) hD hF (fun p e s m args below meth c ls C0 hP hS hl => ?_)
  have hl : lv_has ls 4 [(0, .ref (g.2.2 + o0)), (1, .ref (g.2.2 + o1)), (2, .int p2), (3, .ref (g.2.2 + o3))] := hl
  have C0 : tm_C p m c cX4_quarrel 4 s args wsX4_quarrel RX4 meth none g A L tm_all := C0
  obtain ⟨⟨hx, hb, hml, hown, hts⟩, hr, hlk, hK, hD, hG, hF⟩ := id C0
  unfold f_X4_quarrel at h
  obtain ⟨g1, h⟩ := tm_gd_some h
  obtain ⟨g2, h⟩ := tm_gd_some h
  refine lv_aload_n hx hb dX4_quarrel_0 rfl (lv_at hl 1 rfl) ?_
  obtain ⟨M5, e4, h⟩ := tm_bd_some h
  refine tm_backV (M0 := M5) (fun _ q => q) (tm_callV (As := []) (rest := []) ⟨hx, hb, hml, hown, hts⟩ hK hG hP hS (c_X1_sulk l g A L hD hF M o1 M5 e4) (cwV 0 hts gX4_quarrel_X1_sulk rfl rfl rfl (by decide +kernel) ⟨Nat.le_of_ble_eq_true rfl, Nat.le_of_ble_eq_true rfl⟩) (tm_recv hK hP (hF _ (tm_lt g1)) (ci := 0) rfl (tm_mkX1 g1 _)) rfl hl.1 (lv_room (Nat.le_of_ble_eq_true rfl)) dX4_quarrel_1 ⟨Nat.zero_le _, Nat.zero_le _⟩) hS (fun H locs hP hS => ?_)
  exact tm_vret C0 (Option.some.inj h) hP hS dX4_quarrel_4
/-! X4_gain -/
theorem nX4_gain_X1 : ∀ w ∈ wsX10, w ∈ wsX4_gain := by decide +kernel
theorem kX4_gain_0 : Cond.fieldLink RX4 7 "QuarrelDesk$Life" "temper" "I" ∈ wsX4_gain := by decide +kernel
theorem kX4_gain_1 : Cond.fieldLink RX4 13 "QuarrelDesk$Life" "silent" "I" ∈ wsX4_gain := by decide +kernel
def f_X4_gain (M : tm_M) (o0 : Nat) (o1 : Nat) (p2 : Int32) : Option Int32 :=
  tm_gd (tm_shp o1 = 0) <|
  some ((M o1 1) + (M o1 3))
set_option maxHeartbeats 4000000 in
set_option maxRecDepth 100000 in
theorem c_X4_gain (l : Launch) (g : tm_G) (A : Nat → Prop) (L : List Nat) (hD : ∀ M, va_D A (tm_ws g L M)) (hF : ∀ o, tm_all o → o ∈ L) (M : tm_M) (o0 : Nat) (o1 : Nat) (p2 : Int32) (r0 : Int32) (h : f_X4_gain M o0 o1 p2 = some r0) : Met l yX4_gain wsX4_gain { frames := 0, cells := 0, slots := 0, locals := 0 } (tm_PC g A L M [.ref (g.2.2 + o0), .ref (g.2.2 + o1), .int p2]) (tm_QI g A L (r0, M)) 0 0 A := by
  refine tm_start (cc := cX4_gain) (nL := 3) (ret := (some .int)) (F := tm_all) (plainFor_of_name (by decide)) rfl (Nat.le_of_ble_eq_true rfl) hD hF (fun p e s m args below meth c ls C0 hP hS hl => ?_)
  have hl : lv_has ls 3 [(0, .ref (g.2.2 + o0)), (1, .ref (g.2.2 + o1)), (2, .int p2)] := hl
  have C0 : tm_C p m c cX4_gain 3 s args wsX4_gain RX4 meth (some .int) g A L tm_all := C0
  obtain ⟨⟨hx, hb, hml, hown, hts⟩, hr, hlk, hK, hD, hG, hF⟩ := id C0
  unfold f_X4_gain at h
  obtain ⟨g1, h⟩ := tm_gd_some h
  refine lv_aload_n hx hb dX4_gain_0 rfl (lv_at hl 1 rfl) ?_
  refine tm_get (C := RX1) (T := TX1) (N := 12) (v := .int (M o1 1)) hx hb hts nX4_gain_X1 hown hK hP (hF _ (tm_lt g1)) (tm_mkX1 g1 _) rfl 1 (by decide) (hts _ kX4_gain_0) rfl dX4_gain_1 ?_
  refine lv_aload_n hx hb dX4_gain_4 rfl (lv_at hl 1 rfl) ?_
  refine tm_get (C := RX1) (T := TX1) (N := 12) (v := .int (M o1 3)) hx hb hts nX4_gain_X1 hown hK hP (hF _ (tm_lt g1)) (tm_mkX1 g1 _) rfl 3 (by decide) (hts _ kX4_gain_1) rfl dX4_gain_5 ?_
  refine lv_iadd hx hb dX4_gain_8 ?_
  exact tm_iret C0 (by rw [Option.some.inj h]) hP hS dX4_gain_9
/-! X3_gain -/
theorem nX3_gain_X1 : ∀ w ∈ wsX10, w ∈ wsX3_gain := by decide +kernel
theorem kX3_gain_0 : Cond.fieldLink RX3 7 "QuarrelDesk$Life" "hadTiff" "Z" ∈ wsX3_gain := by decide +kernel
theorem kX3_gain_1 : Cond.fieldLink RX3 13 "QuarrelDesk$Life" "temper" "I" ∈ wsX3_gain := by decide +kernel
def f_X3_gain (M : tm_M) (o0 : Nat) (o1 : Nat) (p2 : Int32) : Option Int32 :=
  tm_gd (tm_shp o1 = 0) <|
  if (M o1 11) = 0 then
    some (M o1 1)
  else
    some ((M o1 1) + 2)
set_option maxHeartbeats 4000000 in
set_option maxRecDepth 100000 in
theorem c_X3_gain (l : Launch) (g : tm_G) (A : Nat → Prop) (L : List Nat) (hD : ∀ M, va_D A (tm_ws g L M)) (hF : ∀ o, tm_all o → o ∈ L) (M : tm_M) (o0 : Nat) (o1 : Nat) (p2 : Int32) (r0 : Int32) (h : f_X3_gain M o0 o1 p2 = some r0) : Met l yX3_gain wsX3_gain { frames := 0, cells := 0, slots := 0, locals := 0 } (tm_PC g A L M [.ref (g.2.2 + o0), .ref (g.2.2 + o1), .int p2]) (tm_QI g A L (r0, M)) 0 0 A := by
  refine tm_start (cc := cX3_gain) (nL := 3) (ret := (some .int)) (F := tm_all) (plainFor_of_name (by decide)) rfl (Nat.le_of_ble_eq_true rfl) hD hF (fun p e s m args below meth c ls C0 hP hS hl => ?_)
  have hl : lv_has ls 3 [(0, .ref (g.2.2 + o0)), (1, .ref (g.2.2 + o1)), (2, .int p2)] := hl
  have C0 : tm_C p m c cX3_gain 3 s args wsX3_gain RX3 meth (some .int) g A L tm_all := C0
  obtain ⟨⟨hx, hb, hml, hown, hts⟩, hr, hlk, hK, hD, hG, hF⟩ := id C0
  unfold f_X3_gain at h
  obtain ⟨g1, h⟩ := tm_gd_some h
  refine lv_aload_n hx hb dX3_gain_0 rfl (lv_at hl 1 rfl) ?_
  refine tm_get (C := RX1) (T := TX1) (N := 12) (v := .int (M o1 11)) hx hb hts nX3_gain_X1 hown hK hP (hF _ (tm_lt g1)) (tm_mkX1 g1 _) rfl 11 (by decide) (hts _ kX3_gain_0) rfl dX3_gain_1 ?_
  refine lv_if_eq (tgt := 16) hx hb dX3_gain_4 (by decide) (fun c2 => ?_) (fun c2 => ?_)
  · rw [if_pos c2] at h
    refine lv_aload_n hx hb dX3_gain_16 rfl (lv_at hl 1 rfl) ?_
    refine tm_get (C := RX1) (T := TX1) (N := 12) (v := .int (M o1 1)) hx hb hts nX3_gain_X1 hown hK hP (hF _ (tm_lt g1)) (tm_mkX1 g1 _) rfl 1 (by decide) (hts _ kX3_gain_1) rfl dX3_gain_17 ?_
    exact tm_iret C0 (by rw [Option.some.inj h]) hP hS dX3_gain_20
  · rw [if_neg c2] at h
    refine lv_aload_n hx hb dX3_gain_7 rfl (lv_at hl 1 rfl) ?_
    refine tm_get (C := RX1) (T := TX1) (N := 12) (v := .int (M o1 1)) hx hb hts nX3_gain_X1 hown hK hP (hF _ (tm_lt g1)) (tm_mkX1 g1 _) rfl 1 (by decide) (hts _ kX3_gain_1) rfl dX3_gain_8 ?_
    refine lv_iconst (v := 2) hx hb dX3_gain_11 (by decide) ?_
    refine lv_iadd hx hb dX3_gain_12 ?_
    refine lv_goto (tgt := 20) hx hb dX3_gain_13 (by decide) ?_
    exact tm_iret C0 (by rw [Option.some.inj h]) hP hS dX3_gain_20
/-! X1_pass -/
theorem nX1_pass_X1 : ∀ w ∈ wsX10, w ∈ wsX1_pass := by decide +kernel
theorem kX1_pass_0 : Cond.fieldLink RX1 23 "QuarrelDesk$Life" "strain" "I" ∈ wsX1_pass := by decide +kernel
theorem kX1_pass_1 : Cond.fieldLink RX1 15 "QuarrelDesk$Life" "nature" "LQuarrelDesk$Couple;" ∈ wsX1_pass := by decide +kernel
theorem kX1_pass_2 : Cond.methodLink RX1 64 Lib.Math.min.name ∈ wsX1_pass := by decide +kernel
theorem kX1_pass_3 : Cond.static Lib.Math.min.name ∈ wsX1_pass := by decide +kernel
theorem kX1_pass_4 : Cond.initialized "java/lang/Math" ∈ wsX1_pass := by decide +kernel
theorem kX1_pass_5 : Cond.code Lib.Math.min.name Lib.Math.min.code 2 (some .int) ∈ wsX1_pass := by decide +kernel
theorem kX1_pass_6 : Cond.fieldLink RX1 51 "QuarrelDesk$Life" "hadTiff" "Z" ∈ wsX1_pass := by decide +kernel
theorem nX1_pass_X6 : ∀ w ∈ wsX60, w ∈ wsX1_pass := by decide +kernel
theorem kX1_pass_7 : Cond.fieldLink RX1 70 "QuarrelDesk$Terms" "breaking" "I" ∈ wsX1_pass := by decide +kernel
theorem kX1_pass_8 : Cond.fieldLink RX1 79 "QuarrelDesk$Terms" "tiff" "I" ∈ wsX1_pass := by decide +kernel
theorem kX1_pass_9 : Cond.fieldLink RX1 26 "QuarrelDesk$Life" "silent" "I" ∈ wsX1_pass := by decide +kernel
theorem kX1_pass_10 : Cond.code yX0_gain cX0_gain 3 (some .int) ∈ wsX1_pass := by decide +kernel
def f_X1_pass (M : tm_M) (o0 : Nat) (p1 : Int32) (o2 : Nat) : Option (Int32 × tm_M) :=
  tm_gd (tm_shp o0 = 0) <|
  tm_gd (tm_shp o2 = 5) <|
  tm_gd (¬ M o0 0 = 0) <|
  if tm_shp ((M o0 0).toNatClampNeg) = 1 then
    (f_X0_gain M ((M o0 0).toNatClampNeg) o0 p1).bind fun r5 =>
    (some (tm_st M o0 2 (if ((M o0 2) + r5) < 99 then ((M o0 2) + r5) else 99))).bind fun M7 =>
    (some (tm_st M7 o0 11 0)).bind fun M9 =>
    if (M9 o0 2) < (M9 o2 4) then
      if (M9 o0 2) < (M9 o2 3) then
        (some (tm_st M9 o0 3 0)).bind fun M13 =>
        some (0, M13)
      else
        tm_gd (¬ M9 o0 0 = 0) <|
        if tm_shp ((M9 o0 0).toNatClampNeg) = 1 then
          (f_X2_quarrel M9 ((M9 o0 0).toNatClampNeg) o0 p1 o2).bind fun M19 =>
          some (0, M19)
        else
          if tm_shp ((M9 o0 0).toNatClampNeg) = 2 then
            (f_X2_quarrel M9 ((M9 o0 0).toNatClampNeg) o0 p1 o2).bind fun M23 =>
            some (0, M23)
          else
            if tm_shp ((M9 o0 0).toNatClampNeg) = 3 then
              (f_X4_quarrel M9 ((M9 o0 0).toNatClampNeg) o0 p1 o2).bind fun M27 =>
              some (0, M27)
            else
              if tm_shp ((M9 o0 0).toNatClampNeg) = 4 then
                (f_X2_quarrel M9 ((M9 o0 0).toNatClampNeg) o0 p1 o2).bind fun M31 =>
                some (0, M31)
              else
                none
    else
      (f_X1_breakUp M9 o0 p1 o2).bind fun M34 =>
      some (1, M34)
  else
    if tm_shp ((M o0 0).toNatClampNeg) = 2 then
      (f_X3_gain M ((M o0 0).toNatClampNeg) o0 p1).bind fun r36 =>
      (some (tm_st M o0 2 (if ((M o0 2) + r36) < 99 then ((M o0 2) + r36) else 99))).bind fun M38 =>
      (some (tm_st M38 o0 11 0)).bind fun M40 =>
      if (M40 o0 2) < (M40 o2 4) then
        if (M40 o0 2) < (M40 o2 3) then
          (some (tm_st M40 o0 3 0)).bind fun M44 =>
          some (0, M44)
        else
          tm_gd (¬ M40 o0 0 = 0) <|
          if tm_shp ((M40 o0 0).toNatClampNeg) = 1 then
            (f_X2_quarrel M40 ((M40 o0 0).toNatClampNeg) o0 p1 o2).bind fun M50 =>
            some (0, M50)
          else
            if tm_shp ((M40 o0 0).toNatClampNeg) = 2 then
              (f_X2_quarrel M40 ((M40 o0 0).toNatClampNeg) o0 p1 o2).bind fun M54 =>
              some (0, M54)
            else
              if tm_shp ((M40 o0 0).toNatClampNeg) = 3 then
                (f_X4_quarrel M40 ((M40 o0 0).toNatClampNeg) o0 p1 o2).bind fun M58 =>
                some (0, M58)
              else
                if tm_shp ((M40 o0 0).toNatClampNeg) = 4 then
                  (f_X2_quarrel M40 ((M40 o0 0).toNatClampNeg) o0 p1 o2).bind fun M62 =>
                  some (0, M62)
                else
                  none
      else
        (f_X1_breakUp M40 o0 p1 o2).bind fun M65 =>
        some (1, M65)
    else
      if tm_shp ((M o0 0).toNatClampNeg) = 3 then
        (f_X4_gain M ((M o0 0).toNatClampNeg) o0 p1).bind fun r67 =>
        (some (tm_st M o0 2 (if ((M o0 2) + r67) < 99 then ((M o0 2) + r67) else 99))).bind fun M69 =>
        (some (tm_st M69 o0 11 0)).bind fun M71 =>
        if (M71 o0 2) < (M71 o2 4) then
          if (M71 o0 2) < (M71 o2 3) then
            (some (tm_st M71 o0 3 0)).bind fun M75 =>
            some (0, M75)
          else
            tm_gd (¬ M71 o0 0 = 0) <|
            if tm_shp ((M71 o0 0).toNatClampNeg) = 1 then
              (f_X2_quarrel M71 ((M71 o0 0).toNatClampNeg) o0 p1 o2).bind fun M81 =>
              some (0, M81)
            else
              if tm_shp ((M71 o0 0).toNatClampNeg) = 2 then
                (f_X2_quarrel M71 ((M71 o0 0).toNatClampNeg) o0 p1 o2).bind fun M85 =>
                some (0, M85)
              else
                if tm_shp ((M71 o0 0).toNatClampNeg) = 3 then
                  (f_X4_quarrel M71 ((M71 o0 0).toNatClampNeg) o0 p1 o2).bind fun M89 =>
                  some (0, M89)
                else
                  if tm_shp ((M71 o0 0).toNatClampNeg) = 4 then
                    (f_X2_quarrel M71 ((M71 o0 0).toNatClampNeg) o0 p1 o2).bind fun M93 =>
                    some (0, M93)
                  else
                    none
        else
          (f_X1_breakUp M71 o0 p1 o2).bind fun M96 =>
          some (1, M96)
      else
        if tm_shp ((M o0 0).toNatClampNeg) = 4 then
          (f_X5_gain M ((M o0 0).toNatClampNeg) o0 p1).bind fun r98 =>
          (some (tm_st M o0 2 (if ((M o0 2) + r98) < 99 then ((M o0 2) + r98) else 99))).bind fun M100 =>
          (some (tm_st M100 o0 11 0)).bind fun M102 =>
          if (M102 o0 2) < (M102 o2 4) then
            if (M102 o0 2) < (M102 o2 3) then
              (some (tm_st M102 o0 3 0)).bind fun M106 =>
              some (0, M106)
            else
              tm_gd (¬ M102 o0 0 = 0) <|
              if tm_shp ((M102 o0 0).toNatClampNeg) = 1 then
                (f_X2_quarrel M102 ((M102 o0 0).toNatClampNeg) o0 p1 o2).bind fun M112 =>
                some (0, M112)
              else
                if tm_shp ((M102 o0 0).toNatClampNeg) = 2 then
                  (f_X2_quarrel M102 ((M102 o0 0).toNatClampNeg) o0 p1 o2).bind fun M116 =>
                  some (0, M116)
                else
                  if tm_shp ((M102 o0 0).toNatClampNeg) = 3 then
                    (f_X4_quarrel M102 ((M102 o0 0).toNatClampNeg) o0 p1 o2).bind fun M120 =>
                    some (0, M120)
                  else
                    if tm_shp ((M102 o0 0).toNatClampNeg) = 4 then
                      (f_X2_quarrel M102 ((M102 o0 0).toNatClampNeg) o0 p1 o2).bind fun M124 =>
                      some (0, M124)
                    else
                      none
          else
            (f_X1_breakUp M102 o0 p1 o2).bind fun M127 =>
            some (1, M127)
        else
          none
set_option maxHeartbeats 4000000 in
set_option maxRecDepth 100000 in
theorem c_X1_pass (l : Launch) (g : tm_G) (A : Nat → Prop) (L : List Nat) (hD : ∀ M, va_D A (tm_ws g L M)) (hF : ∀ o, tm_all o → o ∈ L) (M : tm_M) (o0 : Nat) (p1 : Int32) (o2 : Nat) (R0 : Int32 × tm_M) (h : f_X1_pass M o0 p1 o2 = some R0) : Met l yX1_pass wsX1_pass { frames := 3, cells := 0, slots := 0, locals := 66 } (tm_PC g A L M [.ref (g.2.2 + o0), .int p1, .ref (g.2.2 + o2)]) (tm_QI g A L R0) 0 0 A := by
  refine tm_start (cc := cX1_pass) (nL := 3) (ret := (some .boolean)) (F := tm_all) (plainFor_of_name (by decide)) rfl (Nat.le_of_ble_eq_true rfl) hD hF (fun p e s m args below meth c ls C0 hP hS hl => ?_)
  have hl : lv_has ls 3 [(0, .ref (g.2.2 + o0)), (1, .int p1), (2, .ref (g.2.2 + o2))] := hl
  have C0 : tm_C p m c cX1_pass 3 s args wsX1_pass RX1 meth (some .boolean) g A L tm_all := C0
  obtain ⟨⟨hx, hb, hml, hown, hts⟩, hr, hlk, hK, hD, hG, hF⟩ := id C0
  unfold f_X1_pass at h
  obtain ⟨g1, h⟩ := tm_gd_some h
  obtain ⟨g2, h⟩ := tm_gd_some h
  refine lv_aload_n hx hb dX1_pass_0 rfl (lv_at hl 0 rfl) ?_
  refine lv_bipush (v := 99) hx hb dX1_pass_1 (by decide) ?_
  refine lv_aload_n hx hb dX1_pass_3 rfl (lv_at hl 0 rfl) ?_
  refine tm_get (C := RX1) (T := TX1) (N := 12) (v := .int (M o0 2)) hx hb hts nX1_pass_X1 hown hK hP (hF _ (tm_lt g1)) (tm_mkX1 g1 _) rfl 2 (by decide) (hts _ kX1_pass_0) rfl dX1_pass_4 ?_
  refine lv_aload_n hx hb dX1_pass_7 rfl (lv_at hl 0 rfl) ?_
  obtain ⟨g3, h⟩ := tm_gd_some h
  refine tm_get (C := RX1) (T := TX1) (N := 12) (v := .ref (g.2.2 + (M o0 0).toNatClampNeg)) hx hb hts nX1_pass_X1 hown hK hP (hF _ (tm_lt g1)) (tm_mkX1 g1 _) rfl 0 (by decide) (hts _ kX1_pass_1) (tm_natv g3) dX1_pass_8 ?_
  refine lv_aload_n hx hb dX1_pass_11 rfl (lv_at hl 0 rfl) ?_
  refine lv_iload_n hx hb dX1_pass_12 rfl (lv_at hl 1 rfl) ?_
  by_cases s4 : tm_shp ((M o0 0).toNatClampNeg) = 1
  · rw [if_pos s4] at h
    obtain ⟨r5, e6, h⟩ := tm_bd_some h
    refine tm_backI (r0 := r5) (M0 := M) (fun _ q => q) (tm_callU (As := [.ref (g.2.2 + o0), .int p1]) (rest := [.int (M o0 2), .int 99, .ref (g.2.2 + o0)]) ⟨hx, hb, hml, hown, hts⟩ hK hG hP hS (c_X0_gain l g A L hD hF M ((M o0 0).toNatClampNeg) o0 p1 r5 e6) (va_cwU 2 hts gX1_pass_X0_gain_u60X2 rfl rfl rfl rfl (by decide +kernel) ⟨Nat.le_of_ble_eq_true rfl, Nat.le_of_ble_eq_true rfl⟩) (tm_recv hK hP (hF _ (tm_lt s4)) (ci := 1) rfl (tm_mkX2 s4 _)) rfl hl.1 (lv_room (Nat.le_of_ble_eq_true rfl)) dX1_pass_13 ⟨Nat.zero_le _, Nat.zero_le _⟩) hS (fun H locs hP hS => ?_)
    refine lv_iadd hx hb dX1_pass_16 ?_
    refine va_mmin hx hb (hml.trans hl.1.symm) hown (hts _ kX1_pass_2) (hts _ kX1_pass_3) (hts _ kX1_pass_4) (hts _ kX1_pass_5) (Nat.le_of_ble_eq_true rfl) (Nat.le_of_ble_eq_true rfl) (Nat.zero_le _) (Nat.zero_le _) dX1_pass_17 ?_
    obtain ⟨M7, e8, h⟩ := tm_bd_some h
    refine tm_put (C := RX1) (T := TX1) (N := 12) (ty := .int) (x := (if ((M o0 2) + r5) < 99 then ((M o0 2) + r5) else 99)) hx hb hts nX1_pass_X1 tyX1 tyX1_ok nmX1 hown hK hP hD hS (hF _ (tm_lt g1)) (tm_mkX1 g1) rfl 2 (by decide) (hts _ kX1_pass_0) rfl (by decide +kernel) rfl rfl (Nat.le_of_ble_eq_true rfl) rfl (Option.some.inj e8) dX1_pass_20 (fun H locs hP hS => ?_)
    refine lv_aload_n hx hb dX1_pass_23 rfl (lv_at hl 0 rfl) ?_
    refine lv_iconst (v := 0) hx hb dX1_pass_24 (by decide) ?_
    obtain ⟨M9, e10, h⟩ := tm_bd_some h
    refine tm_put (C := RX1) (T := TX1) (N := 12) (ty := .boolean) (x := 0) hx hb hts nX1_pass_X1 tyX1 tyX1_ok nmX1 hown hK hP hD hS (hF _ (tm_lt g1)) (tm_mkX1 g1) rfl 11 (by decide) (hts _ kX1_pass_6) rfl (by decide +kernel) rfl rfl (Nat.le_of_ble_eq_true rfl) rfl (Option.some.inj e10) dX1_pass_25 (fun H locs hP hS => ?_)
    refine lv_aload_n hx hb dX1_pass_28 rfl (lv_at hl 0 rfl) ?_
    refine tm_get (C := RX1) (T := TX1) (N := 12) (v := .int (M9 o0 2)) hx hb hts nX1_pass_X1 hown hK hP (hF _ (tm_lt g1)) (tm_mkX1 g1 _) rfl 2 (by decide) (hts _ kX1_pass_0) rfl dX1_pass_29 ?_
    refine lv_aload_n hx hb dX1_pass_32 rfl (lv_at hl 2 rfl) ?_
    refine tm_get (C := RX6) (T := TX6) (N := 6) (v := .int (M9 o2 4)) hx hb hts nX1_pass_X6 hown hK hP (hF _ (tm_lt g2)) (tm_mkX6 g2 _) rfl 4 (by decide) (hts _ kX1_pass_7) rfl dX1_pass_33 ?_
    refine lv_icmp_lt (tgt := 47) hx hb dX1_pass_36 (by decide) (fun c11 => ?_) (fun c11 => ?_)
    · rw [if_pos c11] at h
      refine lv_aload_n hx hb dX1_pass_47 rfl (lv_at hl 0 rfl) ?_
      refine tm_get (C := RX1) (T := TX1) (N := 12) (v := .int (M9 o0 2)) hx hb hts nX1_pass_X1 hown hK hP (hF _ (tm_lt g1)) (tm_mkX1 g1 _) rfl 2 (by decide) (hts _ kX1_pass_0) rfl dX1_pass_48 ?_
      refine lv_aload_n hx hb dX1_pass_51 rfl (lv_at hl 2 rfl) ?_
      refine tm_get (C := RX6) (T := TX6) (N := 6) (v := .int (M9 o2 3)) hx hb hts nX1_pass_X6 hown hK hP (hF _ (tm_lt g2)) (tm_mkX6 g2 _) rfl 3 (by decide) (hts _ kX1_pass_8) rfl dX1_pass_52 ?_
      refine lv_icmp_lt (tgt := 71) hx hb dX1_pass_55 (by decide) (fun c12 => ?_) (fun c12 => ?_)
      · rw [if_pos c12] at h
        refine lv_aload_n hx hb dX1_pass_71 rfl (lv_at hl 0 rfl) ?_
        refine lv_iconst (v := 0) hx hb dX1_pass_72 (by decide) ?_
        obtain ⟨M13, e14, h⟩ := tm_bd_some h
        refine tm_put (C := RX1) (T := TX1) (N := 12) (ty := .int) (x := 0) hx hb hts nX1_pass_X1 tyX1 tyX1_ok nmX1 hown hK hP hD hS (hF _ (tm_lt g1)) (tm_mkX1 g1) rfl 3 (by decide) (hts _ kX1_pass_9) rfl (by decide +kernel) rfl rfl (Nat.le_of_ble_eq_true rfl) rfl (Option.some.inj e14) dX1_pass_73 (fun H locs hP hS => ?_)
        refine lv_iconst (v := 0) hx hb dX1_pass_76 (by decide) ?_
        exact tm_zret C0 (by unfold tm_isB; decide) (Option.some.inj h) hP hS dX1_pass_77
      · rw [if_neg c12] at h
        refine lv_aload_n hx hb dX1_pass_58 rfl (lv_at hl 0 rfl) ?_
        obtain ⟨g15, h⟩ := tm_gd_some h
        refine tm_get (C := RX1) (T := TX1) (N := 12) (v := .ref (g.2.2 + (M9 o0 0).toNatClampNeg)) hx hb hts nX1_pass_X1 hown hK hP (hF _ (tm_lt g1)) (tm_mkX1 g1 _) rfl 0 (by decide) (hts _ kX1_pass_1) (tm_natv g15) dX1_pass_59 ?_
        refine lv_aload_n hx hb dX1_pass_62 rfl (lv_at hl 0 rfl) ?_
        refine lv_iload_n hx hb dX1_pass_63 rfl (lv_at hl 1 rfl) ?_
        refine lv_aload_n hx hb dX1_pass_64 rfl (lv_at hl 2 rfl) ?_
        by_cases s16 : tm_shp ((M9 o0 0).toNatClampNeg) = 1
        · rw [if_pos s16] at h
          obtain ⟨M19, e18, h⟩ := tm_bd_some h
          refine tm_backV (M0 := M19) (fun _ q => q) (tm_callU (As := [.ref (g.2.2 + o0), .int p1, .ref (g.2.2 + o2)]) (rest := []) ⟨hx, hb, hml, hown, hts⟩ hK hG hP hS (c_X2_quarrel l g A L hD hF M9 ((M9 o0 0).toNatClampNeg) o0 p1 o2 M19 e18) (va_cwA 3 hts gX1_pass_X2_quarrel_u82X2 rfl rfl rfl (hG.2.1 _ (List.mem_of_getElem? (i := 1) rfl)) (by decide +kernel) ⟨Nat.le_of_ble_eq_true rfl, Nat.le_of_ble_eq_true rfl⟩) (tm_recv hK hP (hF _ (tm_lt s16)) (ci := 1) rfl (tm_mkX2 s16 _)) rfl hl.1 (lv_room (Nat.le_of_ble_eq_true rfl)) dX1_pass_65 ⟨Nat.zero_le _, Nat.zero_le _⟩) hS (fun H locs hP hS => ?_)
          refine lv_goto (tgt := 76) hx hb dX1_pass_68 (by decide) ?_
          refine lv_iconst (v := 0) hx hb dX1_pass_76 (by decide) ?_
          exact tm_zret C0 (by unfold tm_isB; decide) (Option.some.inj h) hP hS dX1_pass_77
        · rw [if_neg s16] at h
          by_cases s20 : tm_shp ((M9 o0 0).toNatClampNeg) = 2
          · rw [if_pos s20] at h
            obtain ⟨M23, e22, h⟩ := tm_bd_some h
            refine tm_backV (M0 := M23) (fun _ q => q) (tm_callU (As := [.ref (g.2.2 + o0), .int p1, .ref (g.2.2 + o2)]) (rest := []) ⟨hx, hb, hml, hown, hts⟩ hK hG hP hS (c_X2_quarrel l g A L hD hF M9 ((M9 o0 0).toNatClampNeg) o0 p1 o2 M23 e22) (va_cwA 3 hts gX1_pass_X2_quarrel_u82X3 rfl rfl rfl (hG.2.1 _ (List.mem_of_getElem? (i := 1) rfl)) (by decide +kernel) ⟨Nat.le_of_ble_eq_true rfl, Nat.le_of_ble_eq_true rfl⟩) (tm_recv hK hP (hF _ (tm_lt s20)) (ci := 2) rfl (tm_mkX3 s20 _)) rfl hl.1 (lv_room (Nat.le_of_ble_eq_true rfl)) dX1_pass_65 ⟨Nat.zero_le _, Nat.zero_le _⟩) hS (fun H locs hP hS => ?_)
            refine lv_goto (tgt := 76) hx hb dX1_pass_68 (by decide) ?_
            refine lv_iconst (v := 0) hx hb dX1_pass_76 (by decide) ?_
            exact tm_zret C0 (by unfold tm_isB; decide) (Option.some.inj h) hP hS dX1_pass_77
          · rw [if_neg s20] at h
            by_cases s24 : tm_shp ((M9 o0 0).toNatClampNeg) = 3
            · rw [if_pos s24] at h
              obtain ⟨M27, e26, h⟩ := tm_bd_some h
              refine tm_backV (M0 := M27) (fun _ q => q) (tm_callU (As := [.ref (g.2.2 + o0), .int p1, .ref (g.2.2 + o2)]) (rest := []) ⟨hx, hb, hml, hown, hts⟩ hK hG hP hS (c_X4_quarrel l g A L hD hF M9 ((M9 o0 0).toNatClampNeg) o0 p1 o2 M27 e26) (va_cwA 3 hts gX1_pass_X4_quarrel_u82X4 rfl rfl rfl (hG.2.1 _ (List.mem_of_getElem? (i := 1) rfl)) (by decide +kernel) ⟨Nat.le_of_ble_eq_true rfl, Nat.le_of_ble_eq_true rfl⟩) (tm_recv hK hP (hF _ (tm_lt s24)) (ci := 3) rfl (tm_mkX4 s24 _)) rfl hl.1 (lv_room (Nat.le_of_ble_eq_true rfl)) dX1_pass_65 ⟨Nat.zero_le _, Nat.zero_le _⟩) hS (fun H locs hP hS => ?_)
              refine lv_goto (tgt := 76) hx hb dX1_pass_68 (by decide) ?_
              refine lv_iconst (v := 0) hx hb dX1_pass_76 (by decide) ?_
              exact tm_zret C0 (by unfold tm_isB; decide) (Option.some.inj h) hP hS dX1_pass_77
            · rw [if_neg s24] at h
              by_cases s28 : tm_shp ((M9 o0 0).toNatClampNeg) = 4
              · rw [if_pos s28] at h
                obtain ⟨M31, e30, h⟩ := tm_bd_some h
                refine tm_backV (M0 := M31) (fun _ q => q) (tm_callU (As := [.ref (g.2.2 + o0), .int p1, .ref (g.2.2 + o2)]) (rest := []) ⟨hx, hb, hml, hown, hts⟩ hK hG hP hS (c_X2_quarrel l g A L hD hF M9 ((M9 o0 0).toNatClampNeg) o0 p1 o2 M31 e30) (va_cwA 3 hts gX1_pass_X2_quarrel_u82X5 rfl rfl rfl (hG.2.1 _ (List.mem_of_getElem? (i := 1) rfl)) (by decide +kernel) ⟨Nat.le_of_ble_eq_true rfl, Nat.le_of_ble_eq_true rfl⟩) (tm_recv hK hP (hF _ (tm_lt s28)) (ci := 4) rfl (tm_mkX5 s28 _)) rfl hl.1 (lv_room (Nat.le_of_ble_eq_true rfl)) dX1_pass_65 ⟨Nat.zero_le _, Nat.zero_le _⟩) hS (fun H locs hP hS => ?_)
                refine lv_goto (tgt := 76) hx hb dX1_pass_68 (by decide) ?_
                refine lv_iconst (v := 0) hx hb dX1_pass_76 (by decide) ?_
                exact tm_zret C0 (by unfold tm_isB; decide) (Option.some.inj h) hP hS dX1_pass_77
              · rw [if_neg s28] at h
                cases h
    · rw [if_neg c11] at h
      refine lv_aload_n hx hb dX1_pass_39 rfl (lv_at hl 0 rfl) ?_
      refine lv_iload_n hx hb dX1_pass_40 rfl (lv_at hl 1 rfl) ?_
      refine lv_aload_n hx hb dX1_pass_41 rfl (lv_at hl 2 rfl) ?_
      obtain ⟨M34, e33, h⟩ := tm_bd_some h
      refine tm_backV (M0 := M34) (fun _ q => q) (tm_callV (As := [.int p1, .ref (g.2.2 + o2)]) (rest := []) ⟨hx, hb, hml, hown, hts⟩ hK hG hP hS (c_X1_breakUp l g A L hD hF M9 o0 p1 o2 M34 e33) (cwV 2 hts gX1_pass_X1_breakUp rfl rfl rfl (by decide +kernel) ⟨Nat.le_of_ble_eq_true rfl, Nat.le_of_ble_eq_true rfl⟩) (tm_recv hK hP (hF _ (tm_lt g1)) (ci := 0) rfl (tm_mkX1 g1 _)) rfl hl.1 (lv_room (Nat.le_of_ble_eq_true rfl)) dX1_pass_42 ⟨Nat.zero_le _, Nat.zero_le _⟩) hS (fun H locs hP hS => ?_)
      refine lv_iconst (v := 1) hx hb dX1_pass_45 (by decide) ?_
      exact tm_zret C0 (by unfold tm_isB; decide) (Option.some.inj h) hP hS dX1_pass_46
  · rw [if_neg s4] at h
    by_cases s35 : tm_shp ((M o0 0).toNatClampNeg) = 2
    · rw [if_pos s35] at h
      obtain ⟨r36, e37, h⟩ := tm_bd_some h
      refine tm_backI (r0 := r36) (M0 := M) (fun _ q => q) (tm_callU (As := [.ref (g.2.2 + o0), .int p1]) (rest := [.int (M o0 2), .int 99, .ref (g.2.2 + o0)]) ⟨hx, hb, hml, hown, hts⟩ hK hG hP hS (c_X3_gain l g A L hD hF M ((M o0 0).toNatClampNeg) o0 p1 r36 e37) (va_cwO 2 hts gX1_pass_X3_gain_u60X3 rfl rfl rfl (kX1_pass_10) (by decide +kernel) ⟨Nat.le_of_ble_eq_true rfl, Nat.le_of_ble_eq_true rfl⟩) (tm_recv hK hP (hF _ (tm_lt s35)) (ci := 2) rfl (tm_mkX3 s35 _)) rfl hl.1 (lv_room (Nat.le_of_ble_eq_true rfl)) dX1_pass_13 ⟨Nat.zero_le _, Nat.zero_le _⟩) hS (fun H locs hP hS => ?_)
      refine lv_iadd hx hb dX1_pass_16 ?_
      refine va_mmin hx hb (hml.trans hl.1.symm) hown (hts _ kX1_pass_2) (hts _ kX1_pass_3) (hts _ kX1_pass_4) (hts _ kX1_pass_5) (Nat.le_of_ble_eq_true rfl) (Nat.le_of_ble_eq_true rfl) (Nat.zero_le _) (Nat.zero_le _) dX1_pass_17 ?_
      obtain ⟨M38, e39, h⟩ := tm_bd_some h
      refine tm_put (C := RX1) (T := TX1) (N := 12) (ty := .int) (x := (if ((M o0 2) + r36) < 99 then ((M o0 2) + r36) else 99)) hx hb hts nX1_pass_X1 tyX1 tyX1_ok nmX1 hown hK hP hD hS (hF _ (tm_lt g1)) (tm_mkX1 g1) rfl 2 (by decide) (hts _ kX1_pass_0) rfl (by decide +kernel) rfl rfl (Nat.le_of_ble_eq_true rfl) rfl (Option.some.inj e39) dX1_pass_20 (fun H locs hP hS => ?_)
      refine lv_aload_n hx hb dX1_pass_23 rfl (lv_at hl 0 rfl) ?_
      refine lv_iconst (v := 0) hx hb dX1_pass_24 (by decide) ?_
      obtain ⟨M40, e41, h⟩ := tm_bd_some h
      refine tm_put (C := RX1) (T := TX1) (N := 12) (ty := .boolean) (x := 0) hx hb hts nX1_pass_X1 tyX1 tyX1_ok nmX1 hown hK hP hD hS (hF _ (tm_lt g1)) (tm_mkX1 g1) rfl 11 (by decide) (hts _ kX1_pass_6) rfl (by decide +kernel) rfl rfl (Nat.le_of_ble_eq_true rfl) rfl (Option.some.inj e41) dX1_pass_25 (fun H locs hP hS => ?_)
      refine lv_aload_n hx hb dX1_pass_28 rfl (lv_at hl 0 rfl) ?_
      refine tm_get (C := RX1) (T := TX1) (N := 12) (v := .int (M40 o0 2)) hx hb hts nX1_pass_X1 hown hK hP (hF _ (tm_lt g1)) (tm_mkX1 g1 _) rfl 2 (by decide) (hts _ kX1_pass_0) rfl dX1_pass_29 ?_
      refine lv_aload_n hx hb dX1_pass_32 rfl (lv_at hl 2 rfl) ?_
      refine tm_get (C := RX6) (T := TX6) (N := 6) (v := .int (M40 o2 4)) hx hb hts nX1_pass_X6 hown hK hP (hF _ (tm_lt g2)) (tm_mkX6 g2 _) rfl 4 (by decide) (hts _ kX1_pass_7) rfl dX1_pass_33 ?_
      refine lv_icmp_lt (tgt := 47) hx hb dX1_pass_36 (by decide) (fun c42 => ?_) (fun c42 => ?_)
      · rw [if_pos c42] at h
        refine lv_aload_n hx hb dX1_pass_47 rfl (lv_at hl 0 rfl) ?_
        refine tm_get (C := RX1) (T := TX1) (N := 12) (v := .int (M40 o0 2)) hx hb hts nX1_pass_X1 hown hK hP (hF _ (tm_lt g1)) (tm_mkX1 g1 _) rfl 2 (by decide) (hts _ kX1_pass_0) rfl dX1_pass_48 ?_
        refine lv_aload_n hx hb dX1_pass_51 rfl (lv_at hl 2 rfl) ?_
        refine tm_get (C := RX6) (T := TX6) (N := 6) (v := .int (M40 o2 3)) hx hb hts nX1_pass_X6 hown hK hP (hF _ (tm_lt g2)) (tm_mkX6 g2 _) rfl 3 (by decide) (hts _ kX1_pass_8) rfl dX1_pass_52 ?_
        refine lv_icmp_lt (tgt := 71) hx hb dX1_pass_55 (by decide) (fun c43 => ?_) (fun c43 => ?_)
        · rw [if_pos c43] at h
          refine lv_aload_n hx hb dX1_pass_71 rfl (lv_at hl 0 rfl) ?_
          refine lv_iconst (v := 0) hx hb dX1_pass_72 (by decide) ?_
          obtain ⟨M44, e45, h⟩ := tm_bd_some h
          refine tm_put (C := RX1) (T := TX1) (N := 12) (ty := .int) (x := 0) hx hb hts nX1_pass_X1 tyX1 tyX1_ok nmX1 hown hK hP hD hS (hF _ (tm_lt g1)) (tm_mkX1 g1) rfl 3 (by decide) (hts _ kX1_pass_9) rfl (by decide +kernel) rfl rfl (Nat.le_of_ble_eq_true rfl) rfl (Option.some.inj e45) dX1_pass_73 (fun H locs hP hS => ?_)
          refine lv_iconst (v := 0) hx hb dX1_pass_76 (by decide) ?_
          exact tm_zret C0 (by unfold tm_isB; decide) (Option.some.inj h) hP hS dX1_pass_77
        · rw [if_neg c43] at h
          refine lv_aload_n hx hb dX1_pass_58 rfl (lv_at hl 0 rfl) ?_
          obtain ⟨g46, h⟩ := tm_gd_some h
          refine tm_get (C := RX1) (T := TX1) (N := 12) (v := .ref (g.2.2 + (M40 o0 0).toNatClampNeg)) hx hb hts nX1_pass_X1 hown hK hP (hF _ (tm_lt g1)) (tm_mkX1 g1 _) rfl 0 (by decide) (hts _ kX1_pass_1) (tm_natv g46) dX1_pass_59 ?_
          refine lv_aload_n hx hb dX1_pass_62 rfl (lv_at hl 0 rfl) ?_
          refine lv_iload_n hx hb dX1_pass_63 rfl (lv_at hl 1 rfl) ?_
          refine lv_aload_n hx hb dX1_pass_64 rfl (lv_at hl 2 rfl) ?_
          by_cases s47 : tm_shp ((M40 o0 0).toNatClampNeg) = 1
          · rw [if_pos s47] at h
            obtain ⟨M50, e49, h⟩ := tm_bd_some h
            refine tm_backV (M0 := M50) (fun _ q => q) (tm_callU (As := [.ref (g.2.2 + o0), .int p1, .ref (g.2.2 + o2)]) (rest := []) ⟨hx, hb, hml, hown, hts⟩ hK hG hP hS (c_X2_quarrel l g A L hD hF M40 ((M40 o0 0).toNatClampNeg) o0 p1 o2 M50 e49) (va_cwA 3 hts gX1_pass_X2_quarrel_u82X2 rfl rfl rfl (hG.2.1 _ (List.mem_of_getElem? (i := 1) rfl)) (by decide +kernel) ⟨Nat.le_of_ble_eq_true rfl, Nat.le_of_ble_eq_true rfl⟩) (tm_recv hK hP (hF _ (tm_lt s47)) (ci := 1) rfl (tm_mkX2 s47 _)) rfl hl.1 (lv_room (Nat.le_of_ble_eq_true rfl)) dX1_pass_65 ⟨Nat.zero_le _, Nat.zero_le _⟩) hS (fun H locs hP hS => ?_)
            refine lv_goto (tgt := 76) hx hb dX1_pass_68 (by decide) ?_
            refine lv_iconst (v := 0) hx hb dX1_pass_76 (by decide) ?_
            exact tm_zret C0 (by unfold tm_isB; decide) (Option.some.inj h) hP hS dX1_pass_77
          · rw [if_neg s47] at h
            by_cases s51 : tm_shp ((M40 o0 0).toNatClampNeg) = 2
            · rw [if_pos s51] at h
              obtain ⟨M54, e53, h⟩ := tm_bd_some h
              refine tm_backV (M0 := M54) (fun _ q => q) (tm_callU (As := [.ref (g.2.2 + o0), .int p1, .ref (g.2.2 + o2)]) (rest := []) ⟨hx, hb, hml, hown, hts⟩ hK hG hP hS (c_X2_quarrel l g A L hD hF M40 ((M40 o0 0).toNatClampNeg) o0 p1 o2 M54 e53) (va_cwA 3 hts gX1_pass_X2_quarrel_u82X3 rfl rfl rfl (hG.2.1 _ (List.mem_of_getElem? (i := 1) rfl)) (by decide +kernel) ⟨Nat.le_of_ble_eq_true rfl, Nat.le_of_ble_eq_true rfl⟩) (tm_recv hK hP (hF _ (tm_lt s51)) (ci := 2) rfl (tm_mkX3 s51 _)) rfl hl.1 (lv_room (Nat.le_of_ble_eq_true rfl)) dX1_pass_65 ⟨Nat.zero_le _, Nat.zero_le _⟩) hS (fun H locs hP hS => ?_)
              refine lv_goto (tgt := 76) hx hb dX1_pass_68 (by decide) ?_
              refine lv_iconst (v := 0) hx hb dX1_pass_76 (by decide) ?_
              exact tm_zret C0 (by unfold tm_isB; decide) (Option.some.inj h) hP hS dX1_pass_77
            · rw [if_neg s51] at h
              by_cases s55 : tm_shp ((M40 o0 0).toNatClampNeg) = 3
              · rw [if_pos s55] at h
                obtain ⟨M58, e57, h⟩ := tm_bd_some h
                refine tm_backV (M0 := M58) (fun _ q => q) (tm_callU (As := [.ref (g.2.2 + o0), .int p1, .ref (g.2.2 + o2)]) (rest := []) ⟨hx, hb, hml, hown, hts⟩ hK hG hP hS (c_X4_quarrel l g A L hD hF M40 ((M40 o0 0).toNatClampNeg) o0 p1 o2 M58 e57) (va_cwA 3 hts gX1_pass_X4_quarrel_u82X4 rfl rfl rfl (hG.2.1 _ (List.mem_of_getElem? (i := 1) rfl)) (by decide +kernel) ⟨Nat.le_of_ble_eq_true rfl, Nat.le_of_ble_eq_true rfl⟩) (tm_recv hK hP (hF _ (tm_lt s55)) (ci := 3) rfl (tm_mkX4 s55 _)) rfl hl.1 (lv_room (Nat.le_of_ble_eq_true rfl)) dX1_pass_65 ⟨Nat.zero_le _, Nat.zero_le _⟩) hS (fun H locs hP hS => ?_)
                refine lv_goto (tgt := 76) hx hb dX1_pass_68 (by decide) ?_
                refine lv_iconst (v := 0) hx hb dX1_pass_76 (by decide) ?_
                exact tm_zret C0 (by unfold tm_isB; decide) (Option.some.inj h) hP hS dX1_pass_77
              · rw [if_neg s55] at h
                by_cases s59 : tm_shp ((M40 o0 0).toNatClampNeg) = 4
                · rw [if_pos s59] at h
                  obtain ⟨M62, e61, h⟩ := tm_bd_some h
                  refine tm_backV (M0 := M62) (fun _ q => q) (tm_callU (As := [.ref (g.2.2 + o0), .int p1, .ref (g.2.2 + o2)]) (rest := []) ⟨hx, hb, hml, hown, hts⟩ hK hG hP hS (c_X2_quarrel l g A L hD hF M40 ((M40 o0 0).toNatClampNeg) o0 p1 o2 M62 e61) (va_cwA 3 hts gX1_pass_X2_quarrel_u82X5 rfl rfl rfl (hG.2.1 _ (List.mem_of_getElem? (i := 1) rfl)) (by decide +kernel) ⟨Nat.le_of_ble_eq_true rfl, Nat.le_of_ble_eq_true rfl⟩) (tm_recv hK hP (hF _ (tm_lt s59)) (ci := 4) rfl (tm_mkX5 s59 _)) rfl hl.1 (lv_room (Nat.le_of_ble_eq_true rfl)) dX1_pass_65 ⟨Nat.zero_le _, Nat.zero_le _⟩) hS (fun H locs hP hS => ?_)
                  refine lv_goto (tgt := 76) hx hb dX1_pass_68 (by decide) ?_
                  refine lv_iconst (v := 0) hx hb dX1_pass_76 (by decide) ?_
                  exact tm_zret C0 (by unfold tm_isB; decide) (Option.some.inj h) hP hS dX1_pass_77
                · rw [if_neg s59] at h
                  cases h
      · rw [if_neg c42] at h
        refine lv_aload_n hx hb dX1_pass_39 rfl (lv_at hl 0 rfl) ?_
        refine lv_iload_n hx hb dX1_pass_40 rfl (lv_at hl 1 rfl) ?_
        refine lv_aload_n hx hb dX1_pass_41 rfl (lv_at hl 2 rfl) ?_
        obtain ⟨M65, e64, h⟩ := tm_bd_some h
        refine tm_backV (M0 := M65) (fun _ q => q) (tm_callV (As := [.int p1, .ref (g.2.2 + o2)]) (rest := []) ⟨hx, hb, hml, hown, hts⟩ hK hG hP hS (c_X1_breakUp l g A L hD hF M40 o0 p1 o2 M65 e64) (cwV 2 hts gX1_pass_X1_breakUp rfl rfl rfl (by decide +kernel) ⟨Nat.le_of_ble_eq_true rfl, Nat.le_of_ble_eq_true rfl⟩) (tm_recv hK hP (hF _ (tm_lt g1)) (ci := 0) rfl (tm_mkX1 g1 _)) rfl hl.1 (lv_room (Nat.le_of_ble_eq_true rfl)) dX1_pass_42 ⟨Nat.zero_le _, Nat.zero_le _⟩) hS (fun H locs hP hS => ?_)
        refine lv_iconst (v := 1) hx hb dX1_pass_45 (by decide) ?_
        exact tm_zret C0 (by unfold tm_isB; decide) (Option.some.inj h) hP hS dX1_pass_46
    · rw [if_neg s35] at h
      by_cases s66 : tm_shp ((M o0 0).toNatClampNeg) = 3
      · rw [if_pos s66] at h
        obtain ⟨r67, e68, h⟩ := tm_bd_some h
        refine tm_backI (r0 := r67) (M0 := M) (fun _ q => q) (tm_callU (As := [.ref (g.2.2 + o0), .int p1]) (rest := [.int (M o0 2), .int 99, .ref (g.2.2 + o0)]) ⟨hx, hb, hml, hown, hts⟩ hK hG hP hS (c_X4_gain l g A L hD hF M ((M o0 0).toNatClampNeg) o0 p1 r67 e68) (va_cwO 2 hts gX1_pass_X4_gain_u60X4 rfl rfl rfl (kX1_pass_10) (by decide +kernel) ⟨Nat.le_of_ble_eq_true rfl, Nat.le_of_ble_eq_true rfl⟩) (tm_recv hK hP (hF _ (tm_lt s66)) (ci := 3) rfl (tm_mkX4 s66 _)) rfl hl.1 (lv_room (Nat.le_of_ble_eq_true rfl)) dX1_pass_13 ⟨Nat.zero_le _, Nat.zero_le _⟩) hS (fun H locs hP hS => ?_)
        refine lv_iadd hx hb dX1_pass_16 ?_
        refine va_mmin hx hb (hml.trans hl.1.symm) hown (hts _ kX1_pass_2) (hts _ kX1_pass_3) (hts _ kX1_pass_4) (hts _ kX1_pass_5) (Nat.le_of_ble_eq_true rfl) (Nat.le_of_ble_eq_true rfl) (Nat.zero_le _) (Nat.zero_le _) dX1_pass_17 ?_
        obtain ⟨M69, e70, h⟩ := tm_bd_some h
        refine tm_put (C := RX1) (T := TX1) (N := 12) (ty := .int) (x := (if ((M o0 2) + r67) < 99 then ((M o0 2) + r67) else 99)) hx hb hts nX1_pass_X1 tyX1 tyX1_ok nmX1 hown hK hP hD hS (hF _ (tm_lt g1)) (tm_mkX1 g1) rfl 2 (by decide) (hts _ kX1_pass_0) rfl (by decide +kernel) rfl rfl (Nat.le_of_ble_eq_true rfl) rfl (Option.some.inj e70) dX1_pass_20 (fun H locs hP hS => ?_)
        refine lv_aload_n hx hb dX1_pass_23 rfl (lv_at hl 0 rfl) ?_
        refine lv_iconst (v := 0) hx hb dX1_pass_24 (by decide) ?_
        obtain ⟨M71, e72, h⟩ := tm_bd_some h
        refine tm_put (C := RX1) (T := TX1) (N := 12) (ty := .boolean) (x := 0) hx hb hts nX1_pass_X1 tyX1 tyX1_ok nmX1 hown hK hP hD hS (hF _ (tm_lt g1)) (tm_mkX1 g1) rfl 11 (by decide) (hts _ kX1_pass_6) rfl (by decide +kernel) rfl rfl (Nat.le_of_ble_eq_true rfl) rfl (Option.some.inj e72) dX1_pass_25 (fun H locs hP hS => ?_)
        refine lv_aload_n hx hb dX1_pass_28 rfl (lv_at hl 0 rfl) ?_
        refine tm_get (C := RX1) (T := TX1) (N := 12) (v := .int (M71 o0 2)) hx hb hts nX1_pass_X1 hown hK hP (hF _ (tm_lt g1)) (tm_mkX1 g1 _) rfl 2 (by decide) (hts _ kX1_pass_0) rfl dX1_pass_29 ?_
        refine lv_aload_n hx hb dX1_pass_32 rfl (lv_at hl 2 rfl) ?_
        refine tm_get (C := RX6) (T := TX6) (N := 6) (v := .int (M71 o2 4)) hx hb hts nX1_pass_X6 hown hK hP (hF _ (tm_lt g2)) (tm_mkX6 g2 _) rfl 4 (by decide) (hts _ kX1_pass_7) rfl dX1_pass_33 ?_
        refine lv_icmp_lt (tgt := 47) hx hb dX1_pass_36 (by decide) (fun c73 => ?_) (fun c73 => ?_)
        · rw [if_pos c73] at h
          refine lv_aload_n hx hb dX1_pass_47 rfl (lv_at hl 0 rfl) ?_
          refine tm_get (C := RX1) (T := TX1) (N := 12) (v := .int (M71 o0 2)) hx hb hts nX1_pass_X1 hown hK hP (hF _ (tm_lt g1)) (tm_mkX1 g1 _) rfl 2 (by decide) (hts _ kX1_pass_0) rfl dX1_pass_48 ?_
          refine lv_aload_n hx hb dX1_pass_51 rfl (lv_at hl 2 rfl) ?_
          refine tm_get (C := RX6) (T := TX6) (N := 6) (v := .int (M71 o2 3)) hx hb hts nX1_pass_X6 hown hK hP (hF _ (tm_lt g2)) (tm_mkX6 g2 _) rfl 3 (by decide) (hts _ kX1_pass_8) rfl dX1_pass_52 ?_
          refine lv_icmp_lt (tgt := 71) hx hb dX1_pass_55 (by decide) (fun c74 => ?_) (fun c74 => ?_)
          · rw [if_pos c74] at h
            refine lv_aload_n hx hb dX1_pass_71 rfl (lv_at hl 0 rfl) ?_
            refine lv_iconst (v := 0) hx hb dX1_pass_72 (by decide) ?_
            obtain ⟨M75, e76, h⟩ := tm_bd_some h
            refine tm_put (C := RX1) (T := TX1) (N := 12) (ty := .int) (x := 0) hx hb hts nX1_pass_X1 tyX1 tyX1_ok nmX1 hown hK hP hD hS (hF _ (tm_lt g1)) (tm_mkX1 g1) rfl 3 (by decide) (hts _ kX1_pass_9) rfl (by decide +kernel) rfl rfl (Nat.le_of_ble_eq_true rfl) rfl (Option.some.inj e76) dX1_pass_73 (fun H locs hP hS => ?_)
            refine lv_iconst (v := 0) hx hb dX1_pass_76 (by decide) ?_
            exact tm_zret C0 (by unfold tm_isB; decide) (Option.some.inj h) hP hS dX1_pass_77
          · rw [if_neg c74] at h
            refine lv_aload_n hx hb dX1_pass_58 rfl (lv_at hl 0 rfl) ?_
            obtain ⟨g77, h⟩ := tm_gd_some h
            refine tm_get (C := RX1) (T := TX1) (N := 12) (v := .ref (g.2.2 + (M71 o0 0).toNatClampNeg)) hx hb hts nX1_pass_X1 hown hK hP (hF _ (tm_lt g1)) (tm_mkX1 g1 _) rfl 0 (by decide) (hts _ kX1_pass_1) (tm_natv g77) dX1_pass_59 ?_
            refine lv_aload_n hx hb dX1_pass_62 rfl (lv_at hl 0 rfl) ?_
            refine lv_iload_n hx hb dX1_pass_63 rfl (lv_at hl 1 rfl) ?_
            refine lv_aload_n hx hb dX1_pass_64 rfl (lv_at hl 2 rfl) ?_
            by_cases s78 : tm_shp ((M71 o0 0).toNatClampNeg) = 1
            · rw [if_pos s78] at h
              obtain ⟨M81, e80, h⟩ := tm_bd_some h
              refine tm_backV (M0 := M81) (fun _ q => q) (tm_callU (As := [.ref (g.2.2 + o0), .int p1, .ref (g.2.2 + o2)]) (rest := []) ⟨hx, hb, hml, hown, hts⟩ hK hG hP hS (c_X2_quarrel l g A L hD hF M71 ((M71 o0 0).toNatClampNeg) o0 p1 o2 M81 e80) (va_cwA 3 hts gX1_pass_X2_quarrel_u82X2 rfl rfl rfl (hG.2.1 _ (List.mem_of_getElem? (i := 1) rfl)) (by decide +kernel) ⟨Nat.le_of_ble_eq_true rfl, Nat.le_of_ble_eq_true rfl⟩) (tm_recv hK hP (hF _ (tm_lt s78)) (ci := 1) rfl (tm_mkX2 s78 _)) rfl hl.1 (lv_room (Nat.le_of_ble_eq_true rfl)) dX1_pass_65 ⟨Nat.zero_le _, Nat.zero_le _⟩) hS (fun H locs hP hS => ?_)
              refine lv_goto (tgt := 76) hx hb dX1_pass_68 (by decide) ?_
              refine lv_iconst (v := 0) hx hb dX1_pass_76 (by decide) ?_
              exact tm_zret C0 (by unfold tm_isB; decide) (Option.some.inj h) hP hS dX1_pass_77
            · rw [if_neg s78] at h
              by_cases s82 : tm_shp ((M71 o0 0).toNatClampNeg) = 2
              · rw [if_pos s82] at h
                obtain ⟨M85, e84, h⟩ := tm_bd_some h
                refine tm_backV (M0 := M85) (fun _ q => q) (tm_callU (As := [.ref (g.2.2 + o0), .int p1, .ref (g.2.2 + o2)]) (rest := []) ⟨hx, hb, hml, hown, hts⟩ hK hG hP hS (c_X2_quarrel l g A L hD hF M71 ((M71 o0 0).toNatClampNeg) o0 p1 o2 M85 e84) (va_cwA 3 hts gX1_pass_X2_quarrel_u82X3 rfl rfl rfl (hG.2.1 _ (List.mem_of_getElem? (i := 1) rfl)) (by decide +kernel) ⟨Nat.le_of_ble_eq_true rfl, Nat.le_of_ble_eq_true rfl⟩) (tm_recv hK hP (hF _ (tm_lt s82)) (ci := 2) rfl (tm_mkX3 s82 _)) rfl hl.1 (lv_room (Nat.le_of_ble_eq_true rfl)) dX1_pass_65 ⟨Nat.zero_le _, Nat.zero_le _⟩) hS (fun H locs hP hS => ?_)
                refine lv_goto (tgt := 76) hx hb dX1_pass_68 (by decide) ?_
                refine lv_iconst (v := 0) hx hb dX1_pass_76 (by decide) ?_
                exact tm_zret C0 (by unfold tm_isB; decide) (Option.some.inj h) hP hS dX1_pass_77
              · rw [if_neg s82] at h
                by_cases s86 : tm_shp ((M71 o0 0).toNatClampNeg) = 3
                · rw [if_pos s86] at h
                  obtain ⟨M89, e88, h⟩ := tm_bd_some h
                  refine tm_backV (M0 := M89) (fun _ q => q) (tm_callU (As := [.ref (g.2.2 + o0), .int p1, .ref (g.2.2 + o2)]) (rest := []) ⟨hx, hb, hml, hown, hts⟩ hK hG hP hS (c_X4_quarrel l g A L hD hF M71 ((M71 o0 0).toNatClampNeg) o0 p1 o2 M89 e88) (va_cwA 3 hts gX1_pass_X4_quarrel_u82X4 rfl rfl rfl (hG.2.1 _ (List.mem_of_getElem? (i := 1) rfl)) (by decide +kernel) ⟨Nat.le_of_ble_eq_true rfl, Nat.le_of_ble_eq_true rfl⟩) (tm_recv hK hP (hF _ (tm_lt s86)) (ci := 3) rfl (tm_mkX4 s86 _)) rfl hl.1 (lv_room (Nat.le_of_ble_eq_true rfl)) dX1_pass_65 ⟨Nat.zero_le _, Nat.zero_le _⟩) hS (fun H locs hP hS => ?_)
                  refine lv_goto (tgt := 76) hx hb dX1_pass_68 (by decide) ?_
                  refine lv_iconst (v := 0) hx hb dX1_pass_76 (by decide) ?_
                  exact tm_zret C0 (by unfold tm_isB; decide) (Option.some.inj h) hP hS dX1_pass_77
                · rw [if_neg s86] at h
                  by_cases s90 : tm_shp ((M71 o0 0).toNatClampNeg) = 4
                  · rw [if_pos s90] at h
                    obtain ⟨M93, e92, h⟩ := tm_bd_some h
                    refine tm_backV (M0 := M93) (fun _ q => q) (tm_callU (As := [.ref (g.2.2 + o0), .int p1, .ref (g.2.2 + o2)]) (rest := []) ⟨hx, hb, hml, hown, hts⟩ hK hG hP hS (c_X2_quarrel l g A L hD hF M71 ((M71 o0 0).toNatClampNeg) o0 p1 o2 M93 e92) (va_cwA 3 hts gX1_pass_X2_quarrel_u82X5 rfl rfl rfl (hG.2.1 _ (List.mem_of_getElem? (i := 1) rfl)) (by decide +kernel) ⟨Nat.le_of_ble_eq_true rfl, Nat.le_of_ble_eq_true rfl⟩) (tm_recv hK hP (hF _ (tm_lt s90)) (ci := 4) rfl (tm_mkX5 s90 _)) rfl hl.1 (lv_room (Nat.le_of_ble_eq_true rfl)) dX1_pass_65 ⟨Nat.zero_le _, Nat.zero_le _⟩) hS (fun H locs hP hS => ?_)
                    refine lv_goto (tgt := 76) hx hb dX1_pass_68 (by decide) ?_
                    refine lv_iconst (v := 0) hx hb dX1_pass_76 (by decide) ?_
                    exact tm_zret C0 (by unfold tm_isB; decide) (Option.some.inj h) hP hS dX1_pass_77
                  · rw [if_neg s90] at h
                    cases h
        · rw [if_neg c73] at h
          refine lv_aload_n hx hb dX1_pass_39 rfl (lv_at hl 0 rfl) ?_
          refine lv_iload_n hx hb dX1_pass_40 rfl (lv_at hl 1 rfl) ?_
          refine lv_aload_n hx hb dX1_pass_41 rfl (lv_at hl 2 rfl) ?_
          obtain ⟨M96, e95, h⟩ := tm_bd_some h
          refine tm_backV (M0 := M96) (fun _ q => q) (tm_callV (As := [.int p1, .ref (g.2.2 + o2)]) (rest := []) ⟨hx, hb, hml, hown, hts⟩ hK hG hP hS (c_X1_breakUp l g A L hD hF M71 o0 p1 o2 M96 e95) (cwV 2 hts gX1_pass_X1_breakUp rfl rfl rfl (by decide +kernel) ⟨Nat.le_of_ble_eq_true rfl, Nat.le_of_ble_eq_true rfl⟩) (tm_recv hK hP (hF _ (tm_lt g1)) (ci := 0) rfl (tm_mkX1 g1 _)) rfl hl.1 (lv_room (Nat.le_of_ble_eq_true rfl)) dX1_pass_42 ⟨Nat.zero_le _, Nat.zero_le _⟩) hS (fun H locs hP hS => ?_)
          refine lv_iconst (v := 1) hx hb dX1_pass_45 (by decide) ?_
          exact tm_zret C0 (by unfold tm_isB; decide) (Option.some.inj h) hP hS dX1_pass_46
      · rw [if_neg s66] at h
        by_cases s97 : tm_shp ((M o0 0).toNatClampNeg) = 4
        · rw [if_pos s97] at h
          obtain ⟨r98, e99, h⟩ := tm_bd_some h
          refine tm_backI (r0 := r98) (M0 := M) (fun _ q => q) (tm_callU (As := [.ref (g.2.2 + o0), .int p1]) (rest := [.int (M o0 2), .int 99, .ref (g.2.2 + o0)]) ⟨hx, hb, hml, hown, hts⟩ hK hG hP hS (c_X5_gain l g A L hD hF M ((M o0 0).toNatClampNeg) o0 p1 r98 e99) (va_cwO 2 hts gX1_pass_X5_gain_u60X5 rfl rfl rfl (kX1_pass_10) (by decide +kernel) ⟨Nat.le_of_ble_eq_true rfl, Nat.le_of_ble_eq_true rfl⟩) (tm_recv hK hP (hF _ (tm_lt s97)) (ci := 4) rfl (tm_mkX5 s97 _)) rfl hl.1 (lv_room (Nat.le_of_ble_eq_true rfl)) dX1_pass_13 ⟨Nat.zero_le _, Nat.zero_le _⟩) hS (fun H locs hP hS => ?_)
          refine lv_iadd hx hb dX1_pass_16 ?_
          refine va_mmin hx hb (hml.trans hl.1.symm) hown (hts _ kX1_pass_2) (hts _ kX1_pass_3) (hts _ kX1_pass_4) (hts _ kX1_pass_5) (Nat.le_of_ble_eq_true rfl) (Nat.le_of_ble_eq_true rfl) (Nat.zero_le _) (Nat.zero_le _) dX1_pass_17 ?_
          obtain ⟨M100, e101, h⟩ := tm_bd_some h
          refine tm_put (C := RX1) (T := TX1) (N := 12) (ty := .int) (x := (if ((M o0 2) + r98) < 99 then ((M o0 2) + r98) else 99)) hx hb hts nX1_pass_X1 tyX1 tyX1_ok nmX1 hown hK hP hD hS (hF _ (tm_lt g1)) (tm_mkX1 g1) rfl 2 (by decide) (hts _ kX1_pass_0) rfl (by decide +kernel) rfl rfl (Nat.le_of_ble_eq_true rfl) rfl (Option.some.inj e101) dX1_pass_20 (fun H locs hP hS => ?_)
          refine lv_aload_n hx hb dX1_pass_23 rfl (lv_at hl 0 rfl) ?_
          refine lv_iconst (v := 0) hx hb dX1_pass_24 (by decide) ?_
          obtain ⟨M102, e103, h⟩ := tm_bd_some h
          refine tm_put (C := RX1) (T := TX1) (N := 12) (ty := .boolean) (x := 0) hx hb hts nX1_pass_X1 tyX1 tyX1_ok nmX1 hown hK hP hD hS (hF _ (tm_lt g1)) (tm_mkX1 g1) rfl 11 (by decide) (hts _ kX1_pass_6) rfl (by decide +kernel) rfl rfl (Nat.le_of_ble_eq_true rfl) rfl (Option.some.inj e103) dX1_pass_25 (fun H locs hP hS => ?_)
          refine lv_aload_n hx hb dX1_pass_28 rfl (lv_at hl 0 rfl) ?_
          refine tm_get (C := RX1) (T := TX1) (N := 12) (v := .int (M102 o0 2)) hx hb hts nX1_pass_X1 hown hK hP (hF _ (tm_lt g1)) (tm_mkX1 g1 _) rfl 2 (by decide) (hts _ kX1_pass_0) rfl dX1_pass_29 ?_
          refine lv_aload_n hx hb dX1_pass_32 rfl (lv_at hl 2 rfl) ?_
          refine tm_get (C := RX6) (T := TX6) (N := 6) (v := .int (M102 o2 4)) hx hb hts nX1_pass_X6 hown hK hP (hF _ (tm_lt g2)) (tm_mkX6 g2 _) rfl 4 (by decide) (hts _ kX1_pass_7) rfl dX1_pass_33 ?_
          refine lv_icmp_lt (tgt := 47) hx hb dX1_pass_36 (by decide) (fun c104 => ?_) (fun c104 => ?_)
          · rw [if_pos c104] at h
            refine lv_aload_n hx hb dX1_pass_47 rfl (lv_at hl 0 rfl) ?_
            refine tm_get (C := RX1) (T := TX1) (N := 12) (v := .int (M102 o0 2)) hx hb hts nX1_pass_X1 hown hK hP (hF _ (tm_lt g1)) (tm_mkX1 g1 _) rfl 2 (by decide) (hts _ kX1_pass_0) rfl dX1_pass_48 ?_
            refine lv_aload_n hx hb dX1_pass_51 rfl (lv_at hl 2 rfl) ?_
            refine tm_get (C := RX6) (T := TX6) (N := 6) (v := .int (M102 o2 3)) hx hb hts nX1_pass_X6 hown hK hP (hF _ (tm_lt g2)) (tm_mkX6 g2 _) rfl 3 (by decide) (hts _ kX1_pass_8) rfl dX1_pass_52 ?_
            refine lv_icmp_lt (tgt := 71) hx hb dX1_pass_55 (by decide) (fun c105 => ?_) (fun c105 => ?_)
            · rw [if_pos c105] at h
              refine lv_aload_n hx hb dX1_pass_71 rfl (lv_at hl 0 rfl) ?_
              refine lv_iconst (v := 0) hx hb dX1_pass_72 (by decide) ?_
              obtain ⟨M106, e107, h⟩ := tm_bd_some h
              refine tm_put (C := RX1) (T := TX1) (N := 12) (ty := .int) (x := 0) hx hb hts nX1_pass_X1 tyX1 tyX1_ok nmX1 hown hK hP hD hS (hF _ (tm_lt g1)) (tm_mkX1 g1) rfl 3 (by decide) (hts _ kX1_pass_9) rfl (by decide +kernel) rfl rfl (Nat.le_of_ble_eq_true rfl) rfl (Option.some.inj e107) dX1_pass_73 (fun H locs hP hS => ?_)
              refine lv_iconst (v := 0) hx hb dX1_pass_76 (by decide) ?_
              exact tm_zret C0 (by unfold tm_isB; decide) (Option.some.inj h) hP hS dX1_pass_77
            · rw [if_neg c105] at h
              refine lv_aload_n hx hb dX1_pass_58 rfl (lv_at hl 0 rfl) ?_
              obtain ⟨g108, h⟩ := tm_gd_some h
              refine tm_get (C := RX1) (T := TX1) (N := 12) (v := .ref (g.2.2 + (M102 o0 0).toNatClampNeg)) hx hb hts nX1_pass_X1 hown hK hP (hF _ (tm_lt g1)) (tm_mkX1 g1 _) rfl 0 (by decide) (hts _ kX1_pass_1) (tm_natv g108) dX1_pass_59 ?_
              refine lv_aload_n hx hb dX1_pass_62 rfl (lv_at hl 0 rfl) ?_
              refine lv_iload_n hx hb dX1_pass_63 rfl (lv_at hl 1 rfl) ?_
              refine lv_aload_n hx hb dX1_pass_64 rfl (lv_at hl 2 rfl) ?_
              by_cases s109 : tm_shp ((M102 o0 0).toNatClampNeg) = 1
              · rw [if_pos s109] at h
                obtain ⟨M112, e111, h⟩ := tm_bd_some h
                refine tm_backV (M0 := M112) (fun _ q => q) (tm_callU (As := [.ref (g.2.2 + o0), .int p1, .ref (g.2.2 + o2)]) (rest := []) ⟨hx, hb, hml, hown, hts⟩ hK hG hP hS (c_X2_quarrel l g A L hD hF M102 ((M102 o0 0).toNatClampNeg) o0 p1 o2 M112 e111) (va_cwA 3 hts gX1_pass_X2_quarrel_u82X2 rfl rfl rfl (hG.2.1 _ (List.mem_of_getElem? (i := 1) rfl)) (by decide +kernel) ⟨Nat.le_of_ble_eq_true rfl, Nat.le_of_ble_eq_true rfl⟩) (tm_recv hK hP (hF _ (tm_lt s109)) (ci := 1) rfl (tm_mkX2 s109 _)) rfl hl.1 (lv_room (Nat.le_of_ble_eq_true rfl)) dX1_pass_65 ⟨Nat.zero_le _, Nat.zero_le _⟩) hS (fun H locs hP hS => ?_)
                refine lv_goto (tgt := 76) hx hb dX1_pass_68 (by decide) ?_
                refine lv_iconst (v := 0) hx hb dX1_pass_76 (by decide) ?_
                exact tm_zret C0 (by unfold tm_isB; decide) (Option.some.inj h) hP hS dX1_pass_77
              · rw [if_neg s109] at h
                by_cases s113 : tm_shp ((M102 o0 0).toNatClampNeg) = 2
                · rw [if_pos s113] at h
                  obtain ⟨M116, e115, h⟩ := tm_bd_some h
                  refine tm_backV (M0 := M116) (fun _ q => q) (tm_callU (As := [.ref (g.2.2 + o0), .int p1, .ref (g.2.2 + o2)]) (rest := []) ⟨hx, hb, hml, hown, hts⟩ hK hG hP hS (c_X2_quarrel l g A L hD hF M102 ((M102 o0 0).toNatClampNeg) o0 p1 o2 M116 e115) (va_cwA 3 hts gX1_pass_X2_quarrel_u82X3 rfl rfl rfl (hG.2.1 _ (List.mem_of_getElem? (i := 1) rfl)) (by decide +kernel) ⟨Nat.le_of_ble_eq_true rfl, Nat.le_of_ble_eq_true rfl⟩) (tm_recv hK hP (hF _ (tm_lt s113)) (ci := 2) rfl (tm_mkX3 s113 _)) rfl hl.1 (lv_room (Nat.le_of_ble_eq_true rfl)) dX1_pass_65 ⟨Nat.zero_le _, Nat.zero_le _⟩) hS (fun H locs hP hS => ?_)
                  refine lv_goto (tgt := 76) hx hb dX1_pass_68 (by decide) ?_
                  refine lv_iconst (v := 0) hx hb dX1_pass_76 (by decide) ?_
                  exact tm_zret C0 (by unfold tm_isB; decide) (Option.some.inj h) hP hS dX1_pass_77
                · rw [if_neg s113] at h
                  by_cases s117 : tm_shp ((M102 o0 0).toNatClampNeg) = 3
                  · rw [if_pos s117] at h
                    obtain ⟨M120, e119, h⟩ := tm_bd_some h
                    refine tm_backV (M0 := M120) (fun _ q => q) (tm_callU (As := [.ref (g.2.2 + o0), .int p1, .ref (g.2.2 + o2)]) (rest := []) ⟨hx, hb, hml, hown, hts⟩ hK hG hP hS (c_X4_quarrel l g A L hD hF M102 ((M102 o0 0).toNatClampNeg) o0 p1 o2 M120 e119) (va_cwA 3 hts gX1_pass_X4_quarrel_u82X4 rfl rfl rfl (hG.2.1 _ (List.mem_of_getElem? (i := 1) rfl)) (by decide +kernel) ⟨Nat.le_of_ble_eq_true rfl, Nat.le_of_ble_eq_true rfl⟩) (tm_recv hK hP (hF _ (tm_lt s117)) (ci := 3) rfl (tm_mkX4 s117 _)) rfl hl.1 (lv_room (Nat.le_of_ble_eq_true rfl)) dX1_pass_65 ⟨Nat.zero_le _, Nat.zero_le _⟩) hS (fun H locs hP hS => ?_)
                    refine lv_goto (tgt := 76) hx hb dX1_pass_68 (by decide) ?_
                    refine lv_iconst (v := 0) hx hb dX1_pass_76 (by decide) ?_
                    exact tm_zret C0 (by unfold tm_isB; decide) (Option.some.inj h) hP hS dX1_pass_77
                  · rw [if_neg s117] at h
                    by_cases s121 : tm_shp ((M102 o0 0).toNatClampNeg) = 4
                    · rw [if_pos s121] at h
                      obtain ⟨M124, e123, h⟩ := tm_bd_some h
                      refine tm_backV (M0 := M124) (fun _ q => q) (tm_callU (As := [.ref (g.2.2 + o0), .int p1, .ref (g.2.2 + o2)]) (rest := []) ⟨hx, hb, hml, hown, hts⟩ hK hG hP hS (c_X2_quarrel l g A L hD hF M102 ((M102 o0 0).toNatClampNeg) o0 p1 o2 M124 e123) (va_cwA 3 hts gX1_pass_X2_quarrel_u82X5 rfl rfl rfl (hG.2.1 _ (List.mem_of_getElem? (i := 1) rfl)) (by decide +kernel) ⟨Nat.le_of_ble_eq_true rfl, Nat.le_of_ble_eq_true rfl⟩) (tm_recv hK hP (hF _ (tm_lt s121)) (ci := 4) rfl (tm_mkX5 s121 _)) rfl hl.1 (lv_room (Nat.le_of_ble_eq_true rfl)) dX1_pass_65 ⟨Nat.zero_le _, Nat.zero_le _⟩) hS (fun H locs hP hS => ?_)
                      refine lv_goto (tgt := 76) hx hb dX1_pass_68 (by decide) ?_
                      refine lv_iconst (v := 0) hx hb dX1_pass_76 (by decide) ?_
                      exact tm_zret C0 (by unfold tm_isB; decide) (Option.some.inj h) hP hS dX1_pass_77
                    · rw [if_neg s121] at h
                      cases h
          · rw [if_neg c104] at h
            refine lv_aload_n hx hb dX1_pass_39 rfl (lv_at hl 0 rfl) ?_
            refine lv_iload_n hx hb dX1_pass_40 rfl (lv_at hl 1 rfl) ?_
            refine lv_aload_n hx hb dX1_pass_41 rfl (lv_at hl 2 rfl) ?_
            obtain ⟨M127, e126, h⟩ := tm_bd_some h
            refine tm_backV (M0 := M127) (fun _ q => q) (tm_callV (As := [.int p1, .ref (g.2.2 + o2)]) (rest := []) ⟨hx, hb, hml, hown, hts⟩ hK hG hP hS (c_X1_breakUp l g A L hD hF M102 o0 p1 o2 M127 e126) (cwV 2 hts gX1_pass_X1_breakUp rfl rfl rfl (by decide +kernel) ⟨Nat.le_of_ble_eq_true rfl, Nat.le_of_ble_eq_true rfl⟩) (tm_recv hK hP (hF _ (tm_lt g1)) (ci := 0) rfl (tm_mkX1 g1 _)) rfl hl.1 (lv_room (Nat.le_of_ble_eq_true rfl)) dX1_pass_42 ⟨Nat.zero_le _, Nat.zero_le _⟩) hS (fun H locs hP hS => ?_)
            refine lv_iconst (v := 1) hx hb dX1_pass_45 (by decide) ?_
            exact tm_zret C0 (by unfold tm_isB; decide) (Option.some.inj h) hP hS dX1_pass_46
        · rw [if_neg s97] at h
          cases h
/-! X1_beKissed -/
theorem nX1_beKissed_X1 : ∀ w ∈ wsX10, w ∈ wsX1_beKissed := by decide +kernel
theorem kX1_beKissed_0 : Cond.fieldLink RX1 23 "QuarrelDesk$Life" "strain" "I" ∈ wsX1_beKissed := by decide +kernel
theorem kX1_beKissed_1 : Cond.fieldLink RX1 26 "QuarrelDesk$Life" "silent" "I" ∈ wsX1_beKissed := by decide +kernel
theorem kX1_beKissed_2 : Cond.fieldLink RX1 29 "QuarrelDesk$Life" "isVoid" "Z" ∈ wsX1_beKissed := by decide +kernel
def f_X1_beKissed (M : tm_M) (o0 : Nat) : Option tm_M :=
  tm_gd (tm_shp o0 = 0) <|
  (some (tm_st M o0 2 ((M o0 2) / 2))).bind fun M2 =>
  (some (tm_st M2 o0 3 0)).bind fun M4 =>
  (some (tm_st M4 o0 4 0)).bind fun M6 =>
  some M6
set_option maxHeartbeats 4000000 in
set_option maxRecDepth 100000 in
theorem c_X1_beKissed (l : Launch) (g : tm_G) (A : Nat → Prop) (L : List Nat) (hD : ∀ M, va_D A (tm_ws g L M)) (hF : ∀ o, tm_all o → o ∈ L) (M : tm_M) (o0 : Nat) (M0 : tm_M) (h : f_X1_beKissed M o0 = some M0) : Met l yX1_beKissed wsX1_beKissed { frames := 0, cells := 0, slots := 0, locals := 0 } (tm_PC g A L M [.ref (g.2.2 + o0)]) (tm_QV g A L M0) 0 0 A := by
  refine tm_start (cc := cX1_beKissed) (nL := 1) (ret := none) (F := tm_all) (plainFor_of_name (by decide)) rfl (Nat.le_of_ble_eq_true rfl) hD hF (fun p e s m args below meth c ls C0 hP hS hl => ?_)
  have hl : lv_has ls 1 [(0, .ref (g.2.2 + o0))] := hl
  have C0 : tm_C p m c cX1_beKissed 1 s args wsX1_beKissed RX1 meth none g A L tm_all := C0
  obtain ⟨⟨hx, hb, hml, hown, hts⟩, hr, hlk, hK, hD, hG, hF⟩ := id C0
  unfold f_X1_beKissed at h
  obtain ⟨g1, h⟩ := tm_gd_some h
  refine lv_aload_n hx hb dX1_beKissed_0 rfl (lv_at hl 0 rfl) ?_
  refine lv_aload_n hx hb dX1_beKissed_1 rfl (lv_at hl 0 rfl) ?_
  refine tm_get (C := RX1) (T := TX1) (N := 12) (v := .int (M o0 2)) hx hb hts nX1_beKissed_X1 hown hK hP (hF _ (tm_lt g1)) (tm_mkX1 g1 _) rfl 2 (by decide) (hts _ kX1_beKissed_0) rfl dX1_beKissed_2 ?_
  refine lv_iconst (v := 2) hx hb dX1_beKissed_5 (by decide) ?_
  refine lv_idiv hx hb dX1_beKissed_6 (by decide) ?_
  obtain ⟨M2, e3, h⟩ := tm_bd_some h
  refine tm_put (C := RX1) (T := TX1) (N := 12) (ty := .int) (x := (M o0 2) / 2) hx hb hts nX1_beKissed_X1 tyX1 tyX1_ok nmX1 hown hK hP hD hS (hF _ (tm_lt g1)) (tm_mkX1 g1) rfl 2 (by decide) (hts _ kX1_beKissed_0) rfl (by decide +kernel) rfl rfl (Nat.le_of_ble_eq_true rfl) rfl (Option.some.inj e3) dX1_beKissed_7 (fun H locs hP hS => ?_)
  refine lv_aload_n hx hb dX1_beKissed_10 rfl (lv_at hl 0 rfl) ?_
  refine lv_iconst (v := 0) hx hb dX1_beKissed_11 (by decide) ?_
  obtain ⟨M4, e5, h⟩ := tm_bd_some h
  refine tm_put (C := RX1) (T := TX1) (N := 12) (ty := .int) (x := 0) hx hb hts nX1_beKissed_X1 tyX1 tyX1_ok nmX1 hown hK hP hD hS (hF _ (tm_lt g1)) (tm_mkX1 g1) rfl 3 (by decide) (hts _ kX1_beKissed_1) rfl (by decide +kernel) rfl rfl (Nat.le_of_ble_eq_true rfl) rfl (Option.some.inj e5) dX1_beKissed_12 (fun H locs hP hS => ?_)
  refine lv_aload_n hx hb dX1_beKissed_15 rfl (lv_at hl 0 rfl) ?_
  refine lv_iconst (v := 0) hx hb dX1_beKissed_16 (by decide) ?_
  obtain ⟨M6, e7, h⟩ := tm_bd_some h
  refine tm_put (C := RX1) (T := TX1) (N := 12) (ty := .boolean) (x := 0) hx hb hts nX1_beKissed_X1 tyX1 tyX1_ok nmX1 hown hK hP hD hS (hF _ (tm_lt g1)) (tm_mkX1 g1) rfl 4 (by decide) (hts _ kX1_beKissed_2) rfl (by decide +kernel) rfl rfl (Nat.le_of_ble_eq_true rfl) rfl (Option.some.inj e7) dX1_beKissed_17 (fun H locs hP hS => ?_)
  exact tm_vret C0 (Option.some.inj h) hP hS dX1_beKissed_20
/-! X1_beVisited -/
theorem nX1_beVisited_X1 : ∀ w ∈ wsX10, w ∈ wsX1_beVisited := by decide +kernel
theorem kX1_beVisited_0 : Cond.fieldLink RX1 23 "QuarrelDesk$Life" "strain" "I" ∈ wsX1_beVisited := by decide +kernel
theorem kX1_beVisited_1 : Cond.methodLink RX1 64 Lib.Math.min.name ∈ wsX1_beVisited := by decide +kernel
theorem kX1_beVisited_2 : Cond.static Lib.Math.min.name ∈ wsX1_beVisited := by decide +kernel
theorem kX1_beVisited_3 : Cond.initialized "java/lang/Math" ∈ wsX1_beVisited := by decide +kernel
theorem kX1_beVisited_4 : Cond.code Lib.Math.min.name Lib.Math.min.code 2 (some .int) ∈ wsX1_beVisited := by decide +kernel
def f_X1_beVisited (M : tm_M) (o0 : Nat) : Option tm_M :=
  tm_gd (tm_shp o0 = 0) <|
  (some (tm_st M o0 2 (if ((M o0 2) + 10) < 99 then ((M o0 2) + 10) else 99))).bind fun M2 =>
  some M2
set_option maxHeartbeats 4000000 in
set_option maxRecDepth 100000 in
theorem c_X1_beVisited (l : Launch) (g : tm_G) (A : Nat → Prop) (L : List Nat) (hD : ∀ M, va_D A (tm_ws g L M)) (hF : ∀ o, tm_all o → o ∈ L) (M : tm_M) (o0 : Nat) (M0 : tm_M) (h : f_X1_beVisited M o0 = some M0) : Met l yX1_beVisited wsX1_beVisited { frames := 1, cells := 0, slots := 0, locals := 21 } (tm_PC g A L M [.ref (g.2.2 + o0)]) (tm_QV g A L M0) 0 0 A := by
  refine tm_start (cc := cX1_beVisited) (nL := 1) (ret := none) (F := tm_all) (plainFor_of_name (by decide)) rfl (Nat.le_of_ble_eq_true rfl) hD hF (fun p e s m args below meth c ls C0 hP hS hl => ?_)
  have hl : lv_has ls 1 [(0, .ref (g.2.2 + o0))] := hl
  have C0 : tm_C p m c cX1_beVisited 1 s args wsX1_beVisited RX1 meth none g A L tm_all := C0
  obtain ⟨⟨hx, hb, hml, hown, hts⟩, hr, hlk, hK, hD, hG, hF⟩ := id C0
  unfold f_X1_beVisited at h
  obtain ⟨g1, h⟩ := tm_gd_some h
  refine lv_aload_n hx hb dX1_beVisited_0 rfl (lv_at hl 0 rfl) ?_
  refine lv_bipush (v := 99) hx hb dX1_beVisited_1 (by decide) ?_
  refine lv_aload_n hx hb dX1_beVisited_3 rfl (lv_at hl 0 rfl) ?_
  refine tm_get (C := RX1) (T := TX1) (N := 12) (v := .int (M o0 2)) hx hb hts nX1_beVisited_X1 hown hK hP (hF _ (tm_lt g1)) (tm_mkX1 g1 _) rfl 2 (by decide) (hts _ kX1_beVisited_0) rfl dX1_beVisited_4 ?_
  refine lv_bipush (v := 10) hx hb dX1_beVisited_7 (by decide) ?_
  refine lv_iadd hx hb dX1_beVisited_9 ?_
  refine va_mmin hx hb (hml.trans hl.1.symm) hown (hts _ kX1_beVisited_1) (hts _ kX1_beVisited_2) (hts _ kX1_beVisited_3) (hts _ kX1_beVisited_4) (Nat.le_of_ble_eq_true rfl) (Nat.le_of_ble_eq_true rfl) (Nat.zero_le _) (Nat.zero_le _) dX1_beVisited_10 ?_
  obtain ⟨M2, e3, h⟩ := tm_bd_some h
  refine tm_put (C := RX1) (T := TX1) (N := 12) (ty := .int) (x := (if ((M o0 2) + 10) < 99 then ((M o0 2) + 10) else 99)) hx hb hts nX1_beVisited_X1 tyX1 tyX1_ok nmX1 hown hK hP hD hS (hF _ (tm_lt g1)) (tm_mkX1 g1) rfl 2 (by decide) (hts _ kX1_beVisited_0) rfl (by decide +kernel) rfl rfl (Nat.le_of_ble_eq_true rfl) rfl (Option.some.inj e3) dX1_beVisited_13 (fun H locs hP hS => ?_)
  exact tm_vret C0 (Option.some.inj h) hP hS dX1_beVisited_16
/-! X6_clear -/
theorem nX6_clear_X6 : ∀ w ∈ wsX60, w ∈ wsX6_clear := by decide +kernel
theorem kX6_clear_0 : Cond.fieldLink RX6 12 "QuarrelDesk$Terms" "excess" "I" ∈ wsX6_clear := by decide +kernel
theorem kX6_clear_1 : Cond.fieldLink RX6 16 "QuarrelDesk$Terms" "cover" "I" ∈ wsX6_clear := by decide +kernel
theorem kX6_clear_2 : Cond.fieldLink RX6 19 "QuarrelDesk$Terms" "premium" "I" ∈ wsX6_clear := by decide +kernel
theorem kX6_clear_3 : Cond.fieldLink RX6 22 "QuarrelDesk$Terms" "tiff" "I" ∈ wsX6_clear := by decide +kernel
theorem kX6_clear_4 : Cond.fieldLink RX6 25 "QuarrelDesk$Terms" "breaking" "I" ∈ wsX6_clear := by decide +kernel
theorem kX6_clear_5 : Cond.fieldLink RX6 28 "QuarrelDesk$Terms" "relief" "I" ∈ wsX6_clear := by decide +kernel
def f_X6_clear (M : tm_M) (o0 : Nat) : Option tm_M :=
  tm_gd (tm_shp o0 = 5) <|
  (some (tm_st M o0 0 5)).bind fun M2 =>
  (some (tm_st M2 o0 1 40)).bind fun M4 =>
  (some (tm_st M4 o0 2 2)).bind fun M6 =>
  (some (tm_st M6 o0 3 12)).bind fun M8 =>
  (some (tm_st M8 o0 4 30)).bind fun M10 =>
  (some (tm_st M10 o0 5 6)).bind fun M12 =>
  some M12
set_option maxHeartbeats 4000000 in
set_option maxRecDepth 100000 in
theorem c_X6_clear (l : Launch) (g : tm_G) (A : Nat → Prop) (L : List Nat) (hD : ∀ M, va_D A (tm_ws g L M)) (hF : ∀ o, tm_all o → o ∈ L) (M : tm_M) (o0 : Nat) (M0 : tm_M) (h : f_X6_clear M o0 = some M0) : Met l yX6_clear wsX6_clear { frames := 0, cells := 0, slots := 0, locals := 0 } (tm_PC g A L M [.ref (g.2.2 + o0)]) (tm_QV g A L M0) 0 0 A := by
  refine tm_start (cc := cX6_clear) (nL := 1) (ret := none) (F := tm_all) (plainFor_of_name (by decide)) rfl (Nat.le_of_ble_eq_true rfl) hD hF (fun p e s m args below meth c ls C0 hP hS hl => ?_)
  have hl : lv_has ls 1 [(0, .ref (g.2.2 + o0))] := hl
  have C0 : tm_C p m c cX6_clear 1 s args wsX6_clear RX6 meth none g A L tm_all := C0
  obtain ⟨⟨hx, hb, hml, hown, hts⟩, hr, hlk, hK, hD, hG, hF⟩ := id C0
  unfold f_X6_clear at h
  obtain ⟨g1, h⟩ := tm_gd_some h
  refine lv_aload_n hx hb dX6_clear_0 rfl (lv_at hl 0 rfl) ?_
  refine lv_iconst (v := 5) hx hb dX6_clear_1 (by decide) ?_
  obtain ⟨M2, e3, h⟩ := tm_bd_some h
  refine tm_put (C := RX6) (T := TX6) (N := 6) (ty := .int) (x := 5) hx hb hts nX6_clear_X6 tyX6 tyX6_ok nmX6 hown hK hP hD hS (hF _ (tm_lt g1)) (tm_mkX6 g1) rfl 0 (by decide) (hts _ kX6_clear_0) rfl (by decide +kernel) rfl rfl (Nat.le_of_ble_eq_true rfl) rfl (Option.some.inj e3) dX6_clear_2 (fun H locs hP hS => ?_)
  refine lv_aload_n hx hb dX6_clear_5 rfl (lv_at hl 0 rfl) ?_
  refine lv_bipush (v := 40) hx hb dX6_clear_6 (by decide) ?_
  obtain ⟨M4, e5, h⟩ := tm_bd_some h
  refine tm_put (C := RX6) (T := TX6) (N := 6) (ty := .int) (x := 40) hx hb hts nX6_clear_X6 tyX6 tyX6_ok nmX6 hown hK hP hD hS (hF _ (tm_lt g1)) (tm_mkX6 g1) rfl 1 (by decide) (hts _ kX6_clear_1) rfl (by decide +kernel) rfl rfl (Nat.le_of_ble_eq_true rfl) rfl (Option.some.inj e5) dX6_clear_8 (fun H locs hP hS => ?_)
  refine lv_aload_n hx hb dX6_clear_11 rfl (lv_at hl 0 rfl) ?_
  refine lv_iconst (v := 2) hx hb dX6_clear_12 (by decide) ?_
  obtain ⟨M6, e7, h⟩ := tm_bd_some h
  refine tm_put (C := RX6) (T := TX6) (N := 6) (ty := .int) (x := 2) hx hb hts nX6_clear_X6 tyX6 tyX6_ok nmX6 hown hK hP hD hS (hF _ (tm_lt g1)) (tm_mkX6 g1) rfl 2 (by decide) (hts _ kX6_clear_2) rfl (by decide +kernel) rfl rfl (Nat.le_of_ble_eq_true rfl) rfl (Option.some.inj e7) dX6_clear_13 (fun H locs hP hS => ?_)
  refine lv_aload_n hx hb dX6_clear_16 rfl (lv_at hl 0 rfl) ?_
  refine lv_bipush (v := 12) hx hb dX6_clear_17 (by decide) ?_
  obtain ⟨M8, e9, h⟩ := tm_bd_some h
  refine tm_put (C := RX6) (T := TX6) (N := 6) (ty := .int) (x := 12) hx hb hts nX6_clear_X6 tyX6 tyX6_ok nmX6 hown hK hP hD hS (hF _ (tm_lt g1)) (tm_mkX6 g1) rfl 3 (by decide) (hts _ kX6_clear_3) rfl (by decide +kernel) rfl rfl (Nat.le_of_ble_eq_true rfl) rfl (Option.some.inj e9) dX6_clear_19 (fun H locs hP hS => ?_)
  refine lv_aload_n hx hb dX6_clear_22 rfl (lv_at hl 0 rfl) ?_
  refine lv_bipush (v := 30) hx hb dX6_clear_23 (by decide) ?_
  obtain ⟨M10, e11, h⟩ := tm_bd_some h
  refine tm_put (C := RX6) (T := TX6) (N := 6) (ty := .int) (x := 30) hx hb hts nX6_clear_X6 tyX6 tyX6_ok nmX6 hown hK hP hD hS (hF _ (tm_lt g1)) (tm_mkX6 g1) rfl 4 (by decide) (hts _ kX6_clear_4) rfl (by decide +kernel) rfl rfl (Nat.le_of_ble_eq_true rfl) rfl (Option.some.inj e11) dX6_clear_25 (fun H locs hP hS => ?_)
  refine lv_aload_n hx hb dX6_clear_28 rfl (lv_at hl 0 rfl) ?_
  refine lv_bipush (v := 6) hx hb dX6_clear_29 (by decide) ?_
  obtain ⟨M12, e13, h⟩ := tm_bd_some h
  refine tm_put (C := RX6) (T := TX6) (N := 6) (ty := .int) (x := 6) hx hb hts nX6_clear_X6 tyX6 tyX6_ok nmX6 hown hK hP hD hS (hF _ (tm_lt g1)) (tm_mkX6 g1) rfl 5 (by decide) (hts _ kX6_clear_5) rfl (by decide +kernel) rfl rfl (Nat.le_of_ble_eq_true rfl) rfl (Option.some.inj e13) dX6_clear_31 (fun H locs hP hS => ?_)
  exact tm_vret C0 (Option.some.inj h) hP hS dX6_clear_34
/-! X6_copy -/
theorem nX6_copy_X6 : ∀ w ∈ wsX60, w ∈ wsX6_copy := by decide +kernel
theorem kX6_copy_0 : Cond.fieldLink RX6 12 "QuarrelDesk$Terms" "excess" "I" ∈ wsX6_copy := by decide +kernel
theorem kX6_copy_1 : Cond.fieldLink RX6 16 "QuarrelDesk$Terms" "cover" "I" ∈ wsX6_copy := by decide +kernel
theorem kX6_copy_2 : Cond.fieldLink RX6 19 "QuarrelDesk$Terms" "premium" "I" ∈ wsX6_copy := by decide +kernel
theorem kX6_copy_3 : Cond.fieldLink RX6 22 "QuarrelDesk$Terms" "tiff" "I" ∈ wsX6_copy := by decide +kernel
theorem kX6_copy_4 : Cond.fieldLink RX6 25 "QuarrelDesk$Terms" "breaking" "I" ∈ wsX6_copy := by decide +kernel
theorem kX6_copy_5 : Cond.fieldLink RX6 28 "QuarrelDesk$Terms" "relief" "I" ∈ wsX6_copy := by decide +kernel
def f_X6_copy (M : tm_M) (o0 : Nat) (o1 : Nat) : Option tm_M :=
  tm_gd (tm_shp o0 = 5) <|
  tm_gd (tm_shp o1 = 5) <|
  (some (tm_st M o0 0 (M o1 0))).bind fun M3 =>
  (some (tm_st M3 o0 1 (M3 o1 1))).bind fun M5 =>
  (some (tm_st M5 o0 2 (M5 o1 2))).bind fun M7 =>
  (some (tm_st M7 o0 3 (M7 o1 3))).bind fun M9 =>
  (some (tm_st M9 o0 4 (M9 o1 4))).bind fun M11 =>
  (some (tm_st M11 o0 5 (M11 o1 5))).bind fun M13 =>
  some M13
set_option maxHeartbeats 4000000 in
set_option maxRecDepth 100000 in
theorem c_X6_copy (l : Launch) (g : tm_G) (A : Nat → Prop) (L : List Nat) (hD : ∀ M, va_D A (tm_ws g L M)) (hF : ∀ o, tm_all o → o ∈ L) (M : tm_M) (o0 : Nat) (o1 : Nat) (M0 : tm_M) (h : f_X6_copy M o0 o1 = some M0) : Met l yX6_copy wsX6_copy { frames := 0, cells := 0, slots := 0, locals := 0 } (tm_PC g A L M [.ref (g.2.2 + o0), .ref (g.2.2 + o1)]) (tm_QV g A L M0) 0 0 A := by
  refine tm_start (cc := cX6_copy) (nL := 2) (ret := none) (F := tm_all) (plainFor_of_name (by decide)) rfl (Nat.le_of_ble_eq_true rfl) hD hF (fun p e s m args below meth c ls C0 hP hS hl => ?_)
  have hl : lv_has ls 2 [(0, .ref (g.2.2 + o0)), (1, .ref (g.2.2 + o1))] := hl
  have C0 : tm_C p m c cX6_copy 2 s args wsX6_copy RX6 meth none g A L tm_all := C0
  obtain ⟨⟨hx, hb, hml, hown, hts⟩, hr, hlk, hK, hD, hG, hF⟩ := id C0
  unfold f_X6_copy at h
  obtain ⟨g1, h⟩ := tm_gd_some h
  obtain ⟨g2, h⟩ := tm_gd_some h
  refine lv_aload_n hx hb dX6_copy_0 rfl (lv_at hl 0 rfl) ?_
  refine lv_aload_n hx hb dX6_copy_1 rfl (lv_at hl 1 rfl) ?_
  refine tm_get (C := RX6) (T := TX6) (N := 6) (v := .int (M o1 0)) hx hb hts nX6_copy_X6 hown hK hP (hF _ (tm_lt g2)) (tm_mkX6 g2 _) rfl 0 (by decide) (hts _ kX6_copy_0) rfl dX6_copy_2 ?_
  obtain ⟨M3, e4, h⟩ := tm_bd_some h
  refine tm_put (C := RX6) (T := TX6) (N := 6) (ty := .int) (x := M o1 0) hx hb hts nX6_copy_X6 tyX6 tyX6_ok nmX6 hown hK hP hD hS (hF _ (tm_lt g1)) (tm_mkX6 g1) rfl 0 (by decide) (hts _ kX6_copy_0) rfl (by decide +kernel) rfl rfl (Nat.le_of_ble_eq_true rfl) rfl (Option.some.inj e4) dX6_copy_5 (fun H locs hP hS => ?_)
  refine lv_aload_n hx hb dX6_copy_8 rfl (lv_at hl 0 rfl) ?_
  refine lv_aload_n hx hb dX6_copy_9 rfl (lv_at hl 1 rfl) ?_
  refine tm_get (C := RX6) (T := TX6) (N := 6) (v := .int (M3 o1 1)) hx hb hts nX6_copy_X6 hown hK hP (hF _ (tm_lt g2)) (tm_mkX6 g2 _) rfl 1 (by decide) (hts _ kX6_copy_1) rfl dX6_copy_10 ?_
  obtain ⟨M5, e6, h⟩ := tm_bd_some h
  refine tm_put (C := RX6) (T := TX6) (N := 6) (ty := .int) (x := M3 o1 1) hx hb hts nX6_copy_X6 tyX6 tyX6_ok nmX6 hown hK hP hD hS (hF _ (tm_lt g1)) (tm_mkX6 g1) rfl 1 (by decide) (hts _ kX6_copy_1) rfl (by decide +kernel) rfl rfl (Nat.le_of_ble_eq_true rfl) rfl (Option.some.inj e6) dX6_copy_13 (fun H locs hP hS => ?_)
  refine lv_aload_n hx hb dX6_copy_16 rfl (lv_at hl 0 rfl) ?_
  refine lv_aload_n hx hb dX6_copy_17 rfl (lv_at hl 1 rfl) ?_
  refine tm_get (C := RX6) (T := TX6) (N := 6) (v := .int (M5 o1 2)) hx hb hts nX6_copy_X6 hown hK hP (hF _ (tm_lt g2)) (tm_mkX6 g2 _) rfl 2 (by decide) (hts _ kX6_copy_2) rfl dX6_copy_18 ?_
  obtain ⟨M7, e8, h⟩ := tm_bd_some h
  refine tm_put (C := RX6) (T := TX6) (N := 6) (ty := .int) (x := M5 o1 2) hx hb hts nX6_copy_X6 tyX6 tyX6_ok nmX6 hown hK hP hD hS (hF _ (tm_lt g1)) (tm_mkX6 g1) rfl 2 (by decide) (hts _ kX6_copy_2) rfl (by decide +kernel) rfl rfl (Nat.le_of_ble_eq_true rfl) rfl (Option.some.inj e8) dX6_copy_21 (fun H locs hP hS => ?_)
  refine lv_aload_n hx hb dX6_copy_24 rfl (lv_at hl 0 rfl) ?_
  refine lv_aload_n hx hb dX6_copy_25 rfl (lv_at hl 1 rfl) ?_
  refine tm_get (C := RX6) (T := TX6) (N := 6) (v := .int (M7 o1 3)) hx hb hts nX6_copy_X6 hown hK hP (hF _ (tm_lt g2)) (tm_mkX6 g2 _) rfl 3 (by decide) (hts _ kX6_copy_3) rfl dX6_copy_26 ?_
  obtain ⟨M9, e10, h⟩ := tm_bd_some h
  refine tm_put (C := RX6) (T := TX6) (N := 6) (ty := .int) (x := M7 o1 3) hx hb hts nX6_copy_X6 tyX6 tyX6_ok nmX6 hown hK hP hD hS (hF _ (tm_lt g1)) (tm_mkX6 g1) rfl 3 (by decide) (hts _ kX6_copy_3) rfl (by decide +kernel) rfl rfl (Nat.le_of_ble_eq_true rfl) rfl (Option.some.inj e10) dX6_copy_29 (fun H locs hP hS => ?_)
  refine lv_aload_n hx hb dX6_copy_32 rfl (lv_at hl 0 rfl) ?_
  refine lv_aload_n hx hb dX6_copy_33 rfl (lv_at hl 1 rfl) ?_
  refine tm_get (C := RX6) (T := TX6) (N := 6) (v := .int (M9 o1 4)) hx hb hts nX6_copy_X6 hown hK hP (hF _ (tm_lt g2)) (tm_mkX6 g2 _) rfl 4 (by decide) (hts _ kX6_copy_4) rfl dX6_copy_34 ?_
  obtain ⟨M11, e12, h⟩ := tm_bd_some h
  refine tm_put (C := RX6) (T := TX6) (N := 6) (ty := .int) (x := M9 o1 4) hx hb hts nX6_copy_X6 tyX6 tyX6_ok nmX6 hown hK hP hD hS (hF _ (tm_lt g1)) (tm_mkX6 g1) rfl 4 (by decide) (hts _ kX6_copy_4) rfl (by decide +kernel) rfl rfl (Nat.le_of_ble_eq_true rfl) rfl (Option.some.inj e12) dX6_copy_37 (fun H locs hP hS => ?_)
  refine lv_aload_n hx hb dX6_copy_40 rfl (lv_at hl 0 rfl) ?_
  refine lv_aload_n hx hb dX6_copy_41 rfl (lv_at hl 1 rfl) ?_
  refine tm_get (C := RX6) (T := TX6) (N := 6) (v := .int (M11 o1 5)) hx hb hts nX6_copy_X6 hown hK hP (hF _ (tm_lt g2)) (tm_mkX6 g2 _) rfl 5 (by decide) (hts _ kX6_copy_5) rfl dX6_copy_42 ?_
  obtain ⟨M13, e14, h⟩ := tm_bd_some h
  refine tm_put (C := RX6) (T := TX6) (N := 6) (ty := .int) (x := M11 o1 5) hx hb hts nX6_copy_X6 tyX6 tyX6_ok nmX6 hown hK hP hD hS (hF _ (tm_lt g1)) (tm_mkX6 g1) rfl 5 (by decide) (hts _ kX6_copy_5) rfl (by decide +kernel) rfl rfl (Nat.le_of_ble_eq_true rfl) rfl (Option.some.inj e14) dX6_copy_45 (fun H locs hP hS => ?_)
  exact tm_vret C0 (Option.some.inj h) hP hS dX6_copy_48
/-! X6_get -/
theorem nX6_get_X6 : ∀ w ∈ wsX60, w ∈ wsX6_get := by decide +kernel
theorem kX6_get_0 : Cond.fieldLink RX6 12 "QuarrelDesk$Terms" "excess" "I" ∈ wsX6_get := by decide +kernel
theorem kX6_get_1 : Cond.fieldLink RX6 16 "QuarrelDesk$Terms" "cover" "I" ∈ wsX6_get := by decide +kernel
theorem kX6_get_2 : Cond.fieldLink RX6 19 "QuarrelDesk$Terms" "premium" "I" ∈ wsX6_get := by decide +kernel
theorem kX6_get_3 : Cond.fieldLink RX6 22 "QuarrelDesk$Terms" "tiff" "I" ∈ wsX6_get := by decide +kernel
theorem kX6_get_4 : Cond.fieldLink RX6 25 "QuarrelDesk$Terms" "breaking" "I" ∈ wsX6_get := by decide +kernel
theorem kX6_get_5 : Cond.fieldLink RX6 28 "QuarrelDesk$Terms" "relief" "I" ∈ wsX6_get := by decide +kernel
def f_X6_get (M : tm_M) (o0 : Nat) (p1 : Int32) : Option Int32 :=
  tm_gd (tm_shp o0 = 5) <|
  if p1 = 0 then
    some (M o0 0)
  else
    if p1 = 1 then
      some (M o0 1)
    else
      if p1 = 2 then
        some (M o0 2)
      else
        if p1 = 3 then
          some (M o0 3)
        else
          if p1 = 4 then
            some (M o0 4)
          else
            some (M o0 5)
set_option maxHeartbeats 4000000 in
set_option maxRecDepth 100000 in
theorem c_X6_get (l : Launch) (g : tm_G) (A : Nat → Prop) (L : List Nat) (hD : ∀ M, va_D A (tm_ws g L M)) (hF : ∀ o, tm_all o → o ∈ L) (M : tm_M) (o0 : Nat) (p1 : Int32) (r0 : Int32) (h : f_X6_get M o0 p1 = some r0) : Met l yX6_get wsX6_get { frames := 0, cells := 0, slots := 0, locals := 0 } (tm_PC g A L M [.ref (g.2.2 + o0), .int p1]) (tm_QI g A L (r0, M)) 0 0 A := by
  refine tm_start (cc := cX6_get) (nL := 2) (ret := (some .int)) (F := tm_all) (plainFor_of_name (by decide)) rfl (Nat.le_of_ble_eq_true rfl) hD hF (fun p e s m args below meth c ls C0 hP hS hl => ?_)
  have hl : lv_has ls 2 [(0, .ref (g.2.2 + o0)), (1, .int p1)] := hl
  have C0 : tm_C p m c cX6_get 2 s args wsX6_get RX6 meth (some .int) g A L tm_all := C0
  obtain ⟨⟨hx, hb, hml, hown, hts⟩, hr, hlk, hK, hD, hG, hF⟩ := id C0
  unfold f_X6_get at h
  obtain ⟨g1, h⟩ := tm_gd_some h
  refine lv_iload_n hx hb dX6_get_0 rfl (lv_at hl 1 rfl) ?_
  by_cases c2 : p1 = 0
  · rw [if_pos c2] at h
    refine lv_tableIn (tgt := 36) (off := 35) hx hb dX6_get_1 (by rw [c2]; decide) (by rw [c2]; decide) (by rw [c2]; decide) (by decide) ?_
    refine lv_aload_n hx hb dX6_get_36 rfl (lv_at hl 0 rfl) ?_
    refine tm_get (C := RX6) (T := TX6) (N := 6) (v := .int (M o0 0)) hx hb hts nX6_get_X6 hown hK hP (hF _ (tm_lt g1)) (tm_mkX6 g1 _) rfl 0 (by decide) (hts _ kX6_get_0) rfl dX6_get_37 ?_
    exact tm_iret C0 (by rw [Option.some.inj h]) hP hS dX6_get_40
  · rw [if_neg c2] at h
    by_cases c3 : p1 = 1
    · rw [if_pos c3] at h
      refine lv_tableIn (tgt := 41) (off := 40) hx hb dX6_get_1 (by rw [c3]; decide) (by rw [c3]; decide) (by rw [c3]; decide) (by decide) ?_
      refine lv_aload_n hx hb dX6_get_41 rfl (lv_at hl 0 rfl) ?_
      refine tm_get (C := RX6) (T := TX6) (N := 6) (v := .int (M o0 1)) hx hb hts nX6_get_X6 hown hK hP (hF _ (tm_lt g1)) (tm_mkX6 g1 _) rfl 1 (by decide) (hts _ kX6_get_1) rfl dX6_get_42 ?_
      exact tm_iret C0 (by rw [Option.some.inj h]) hP hS dX6_get_45
    · rw [if_neg c3] at h
      by_cases c4 : p1 = 2
      · rw [if_pos c4] at h
        refine lv_tableIn (tgt := 46) (off := 45) hx hb dX6_get_1 (by rw [c4]; decide) (by rw [c4]; decide) (by rw [c4]; decide) (by decide) ?_
        refine lv_aload_n hx hb dX6_get_46 rfl (lv_at hl 0 rfl) ?_
        refine tm_get (C := RX6) (T := TX6) (N := 6) (v := .int (M o0 2)) hx hb hts nX6_get_X6 hown hK hP (hF _ (tm_lt g1)) (tm_mkX6 g1 _) rfl 2 (by decide) (hts _ kX6_get_2) rfl dX6_get_47 ?_
        exact tm_iret C0 (by rw [Option.some.inj h]) hP hS dX6_get_50
      · rw [if_neg c4] at h
        by_cases c5 : p1 = 3
        · rw [if_pos c5] at h
          refine lv_tableIn (tgt := 51) (off := 50) hx hb dX6_get_1 (by rw [c5]; decide) (by rw [c5]; decide) (by rw [c5]; decide) (by decide) ?_
          refine lv_aload_n hx hb dX6_get_51 rfl (lv_at hl 0 rfl) ?_
          refine tm_get (C := RX6) (T := TX6) (N := 6) (v := .int (M o0 3)) hx hb hts nX6_get_X6 hown hK hP (hF _ (tm_lt g1)) (tm_mkX6 g1 _) rfl 3 (by decide) (hts _ kX6_get_3) rfl dX6_get_52 ?_
          exact tm_iret C0 (by rw [Option.some.inj h]) hP hS dX6_get_55
        · rw [if_neg c5] at h
          by_cases c6 : p1 = 4
          · rw [if_pos c6] at h
            refine lv_tableIn (tgt := 56) (off := 55) hx hb dX6_get_1 (by rw [c6]; decide) (by rw [c6]; decide) (by rw [c6]; decide) (by decide) ?_
            refine lv_aload_n hx hb dX6_get_56 rfl (lv_at hl 0 rfl) ?_
            refine tm_get (C := RX6) (T := TX6) (N := 6) (v := .int (M o0 4)) hx hb hts nX6_get_X6 hown hK hP (hF _ (tm_lt g1)) (tm_mkX6 g1 _) rfl 4 (by decide) (hts _ kX6_get_4) rfl dX6_get_57 ?_
            exact tm_iret C0 (by rw [Option.some.inj h]) hP hS dX6_get_60
          · rw [if_neg c6] at h
            have c2t := lv_neT (a := 0) c2 (by decide)
            have c3t := lv_neT (a := 1) c3 (by decide)
            have c4t := lv_neT (a := 2) c4 (by decide)
            have c5t := lv_neT (a := 3) c5 (by decide)
            have c6t := lv_neT (a := 4) c6 (by decide)
            refine lv_tableOut (tgt := 61) hx hb dX6_get_1 (by omega) (by decide) ?_
            refine lv_aload_n hx hb dX6_get_61 rfl (lv_at hl 0 rfl) ?_
            refine tm_get (C := RX6) (T := TX6) (N := 6) (v := .int (M o0 5)) hx hb hts nX6_get_X6 hown hK hP (hF _ (tm_lt g1)) (tm_mkX6 g1 _) rfl 5 (by decide) (hts _ kX6_get_5) rfl dX6_get_62 ?_
            exact tm_iret C0 (by rw [Option.some.inj h]) hP hS dX6_get_65
/-! X6_set -/
theorem nX6_set_X6 : ∀ w ∈ wsX60, w ∈ wsX6_set := by decide +kernel
theorem kX6_set_0 : Cond.fieldLink RX6 12 "QuarrelDesk$Terms" "excess" "I" ∈ wsX6_set := by decide +kernel
theorem kX6_set_1 : Cond.fieldLink RX6 16 "QuarrelDesk$Terms" "cover" "I" ∈ wsX6_set := by decide +kernel
theorem kX6_set_2 : Cond.fieldLink RX6 19 "QuarrelDesk$Terms" "premium" "I" ∈ wsX6_set := by decide +kernel
theorem kX6_set_3 : Cond.fieldLink RX6 22 "QuarrelDesk$Terms" "tiff" "I" ∈ wsX6_set := by decide +kernel
theorem kX6_set_4 : Cond.fieldLink RX6 25 "QuarrelDesk$Terms" "breaking" "I" ∈ wsX6_set := by decide +kernel
theorem kX6_set_5 : Cond.fieldLink RX6 28 "QuarrelDesk$Terms" "relief" "I" ∈ wsX6_set := by decide +kernel
def f_X6_set (M : tm_M) (o0 : Nat) (p1 : Int32) (p2 : Int32) : Option tm_M :=
  tm_gd (tm_shp o0 = 5) <|
  if p1 = 0 then
    (some (tm_st M o0 0 p2)).bind fun M3 =>
    some M3
  else
    if p1 = 1 then
      (some (tm_st M o0 1 p2)).bind fun M6 =>
      some M6
    else
      if p1 = 2 then
        (some (tm_st M o0 2 p2)).bind fun M9 =>
        some M9
      else
        if p1 = 3 then
          (some (tm_st M o0 3 p2)).bind fun M12 =>
          some M12
        else
          if p1 = 4 then
            (some (tm_st M o0 4 p2)).bind fun M15 =>
            some M15
          else
            (some (tm_st M o0 5 p2)).bind fun M17 =>
            some M17
set_option maxHeartbeats 4000000 in
set_option maxRecDepth 100000 in
theorem c_X6_set (l : Launch) (g : tm_G) (A : Nat → Prop) (L : List Nat) (hD : ∀ M, va_D A (tm_ws g L M)) (hF : ∀ o, tm_all o → o ∈ L) (M : tm_M) (o0 : Nat) (p1 : Int32) (p2 : Int32) (M0 : tm_M) (h : f_X6_set M o0 p1 p2 = some M0) : Met l yX6_set wsX6_set { frames := 0, cells := 0, slots := 0, locals := 0 } (tm_PC g A L M [.ref (g.2.2 + o0), .int p1, .int p2]) (tm_QV g A L M0) 0 0 A := by
  refine tm_start (cc := cX6_set) (nL := 3) (ret := none) (F := tm_all) (plainFor_of_name (by decide)) rfl (Nat.le_of_ble_eq_true rfl) hD hF (fun p e s m args below meth c ls C0 hP hS hl => ?_)
  have hl : lv_has ls 3 [(0, .ref (g.2.2 + o0)), (1, .int p1), (2, .int p2)] := hl
  have C0 : tm_C p m c cX6_set 3 s args wsX6_set RX6 meth none g A L tm_all := C0
  obtain ⟨⟨hx, hb, hml, hown, hts⟩, hr, hlk, hK, hD, hG, hF⟩ := id C0
  unfold f_X6_set at h
  obtain ⟨g1, h⟩ := tm_gd_some h
  refine lv_iload_n hx hb dX6_set_0 rfl (lv_at hl 1 rfl) ?_
  by_cases c2 : p1 = 0
  · rw [if_pos c2] at h
    refine lv_tableIn (tgt := 36) (off := 35) hx hb dX6_set_1 (by rw [c2]; decide) (by rw [c2]; decide) (by rw [c2]; decide) (by decide) ?_
    refine lv_aload_n hx hb dX6_set_36 rfl (lv_at hl 0 rfl) ?_
    refine lv_iload_n hx hb dX6_set_37 rfl (lv_at hl 2 rfl) ?_
    obtain ⟨M3, e4, h⟩ := tm_bd_some h
    refine tm_put (C := RX6) (T := TX6) (N := 6) (ty := .int) (x := p2) hx hb hts nX6_set_X6 tyX6 tyX6_ok nmX6 hown hK hP hD hS (hF _ (tm_lt g1)) (tm_mkX6 g1) rfl 0 (by decide) (hts _ kX6_set_0) rfl (by decide +kernel) rfl rfl (Nat.le_of_ble_eq_true rfl) rfl (Option.some.inj e4) dX6_set_38 (fun H locs hP hS => ?_)
    refine lv_goto (tgt := 81) hx hb dX6_set_41 (by decide) ?_
    exact tm_vret C0 (Option.some.inj h) hP hS dX6_set_81
  · rw [if_neg c2] at h
    by_cases c5 : p1 = 1
    · rw [if_pos c5] at h
      refine lv_tableIn (tgt := 44) (off := 43) hx hb dX6_set_1 (by rw [c5]; decide) (by rw [c5]; decide) (by rw [c5]; decide) (by decide) ?_
      refine lv_aload_n hx hb dX6_set_44 rfl (lv_at hl 0 rfl) ?_
      refine lv_iload_n hx hb dX6_set_45 rfl (lv_at hl 2 rfl) ?_
      obtain ⟨M6, e7, h⟩ := tm_bd_some h
      refine tm_put (C := RX6) (T := TX6) (N := 6) (ty := .int) (x := p2) hx hb hts nX6_set_X6 tyX6 tyX6_ok nmX6 hown hK hP hD hS (hF _ (tm_lt g1)) (tm_mkX6 g1) rfl 1 (by decide) (hts _ kX6_set_1) rfl (by decide +kernel) rfl rfl (Nat.le_of_ble_eq_true rfl) rfl (Option.some.inj e7) dX6_set_46 (fun H locs hP hS => ?_)
      refine lv_goto (tgt := 81) hx hb dX6_set_49 (by decide) ?_
      exact tm_vret C0 (Option.some.inj h) hP hS dX6_set_81
    · rw [if_neg c5] at h
      by_cases c8 : p1 = 2
      · rw [if_pos c8] at h
        refine lv_tableIn (tgt := 52) (off := 51) hx hb dX6_set_1 (by rw [c8]; decide) (by rw [c8]; decide) (by rw [c8]; decide) (by decide) ?_
        refine lv_aload_n hx hb dX6_set_52 rfl (lv_at hl 0 rfl) ?_
        refine lv_iload_n hx hb dX6_set_53 rfl (lv_at hl 2 rfl) ?_
        obtain ⟨M9, e10, h⟩ := tm_bd_some h
        refine tm_put (C := RX6) (T := TX6) (N := 6) (ty := .int) (x := p2) hx hb hts nX6_set_X6 tyX6 tyX6_ok nmX6 hown hK hP hD hS (hF _ (tm_lt g1)) (tm_mkX6 g1) rfl 2 (by decide) (hts _ kX6_set_2) rfl (by decide +kernel) rfl rfl (Nat.le_of_ble_eq_true rfl) rfl (Option.some.inj e10) dX6_set_54 (fun H locs hP hS => ?_)
        refine lv_goto (tgt := 81) hx hb dX6_set_57 (by decide) ?_
        exact tm_vret C0 (Option.some.inj h) hP hS dX6_set_81
      · rw [if_neg c8] at h
        by_cases c11 : p1 = 3
        · rw [if_pos c11] at h
          refine lv_tableIn (tgt := 60) (off := 59) hx hb dX6_set_1 (by rw [c11]; decide) (by rw [c11]; decide) (by rw [c11]; decide) (by decide) ?_
          refine lv_aload_n hx hb dX6_set_60 rfl (lv_at hl 0 rfl) ?_
          refine lv_iload_n hx hb dX6_set_61 rfl (lv_at hl 2 rfl) ?_
          obtain ⟨M12, e13, h⟩ := tm_bd_some h
          refine tm_put (C := RX6) (T := TX6) (N := 6) (ty := .int) (x := p2) hx hb hts nX6_set_X6 tyX6 tyX6_ok nmX6 hown hK hP hD hS (hF _ (tm_lt g1)) (tm_mkX6 g1) rfl 3 (by decide) (hts _ kX6_set_3) rfl (by decide +kernel) rfl rfl (Nat.le_of_ble_eq_true rfl) rfl (Option.some.inj e13) dX6_set_62 (fun H locs hP hS => ?_)
          refine lv_goto (tgt := 81) hx hb dX6_set_65 (by decide) ?_
          exact tm_vret C0 (Option.some.inj h) hP hS dX6_set_81
        · rw [if_neg c11] at h
          by_cases c14 : p1 = 4
          · rw [if_pos c14] at h
            refine lv_tableIn (tgt := 68) (off := 67) hx hb dX6_set_1 (by rw [c14]; decide) (by rw [c14]; decide) (by rw [c14]; decide) (by decide) ?_
            refine lv_aload_n hx hb dX6_set_68 rfl (lv_at hl 0 rfl) ?_
            refine lv_iload_n hx hb dX6_set_69 rfl (lv_at hl 2 rfl) ?_
            obtain ⟨M15, e16, h⟩ := tm_bd_some h
            refine tm_put (C := RX6) (T := TX6) (N := 6) (ty := .int) (x := p2) hx hb hts nX6_set_X6 tyX6 tyX6_ok nmX6 hown hK hP hD hS (hF _ (tm_lt g1)) (tm_mkX6 g1) rfl 4 (by decide) (hts _ kX6_set_4) rfl (by decide +kernel) rfl rfl (Nat.le_of_ble_eq_true rfl) rfl (Option.some.inj e16) dX6_set_70 (fun H locs hP hS => ?_)
            refine lv_goto (tgt := 81) hx hb dX6_set_73 (by decide) ?_
            exact tm_vret C0 (Option.some.inj h) hP hS dX6_set_81
          · rw [if_neg c14] at h
            have c2t := lv_neT (a := 0) c2 (by decide)
            have c5t := lv_neT (a := 1) c5 (by decide)
            have c8t := lv_neT (a := 2) c8 (by decide)
            have c11t := lv_neT (a := 3) c11 (by decide)
            have c14t := lv_neT (a := 4) c14 (by decide)
            refine lv_tableOut (tgt := 76) hx hb dX6_set_1 (by omega) (by decide) ?_
            refine lv_aload_n hx hb dX6_set_76 rfl (lv_at hl 0 rfl) ?_
            refine lv_iload_n hx hb dX6_set_77 rfl (lv_at hl 2 rfl) ?_
            obtain ⟨M17, e18, h⟩ := tm_bd_some h
            refine tm_put (C := RX6) (T := TX6) (N := 6) (ty := .int) (x := p2) hx hb hts nX6_set_X6 tyX6 tyX6_ok nmX6 hown hK hP hD hS (hF _ (tm_lt g1)) (tm_mkX6 g1) rfl 5 (by decide) (hts _ kX6_set_5) rfl (by decide +kernel) rfl rfl (Nat.le_of_ble_eq_true rfl) rfl (Option.some.inj e18) dX6_set_78 (fun H locs hP hS => ?_)
            exact tm_vret C0 (Option.some.inj h) hP hS dX6_set_81
/-! X7_isCouple -/
def f_X7_isCouple (p0 : Int32) : Option Int32 :=
  if p0 < 1 then
    some 0
  else
    if 5 ≤ p0 then
      some 0
    else
      some 1
set_option maxHeartbeats 4000000 in
set_option maxRecDepth 100000 in
theorem c_X7_isCouple (l : Launch) (g : tm_G) (A : Nat → Prop) (L : List Nat) (hD : ∀ M, va_D A (tm_ws g L M)) (hF : ∀ o, tm_all o → o ∈ L) (M : tm_M) (p0 : Int32) (r0 : Int32) (h : f_X7_isCouple p0 = some r0) : Met l yX7_isCouple wsX7_isCouple { frames := 0, cells := 0, slots := 0, locals := 0 } (tm_PC g A L M [.int p0]) (tm_QI g A L (r0, M)) 0 0 A := by
  refine tm_start (cc := cX7_isCouple) (nL := 1) (ret := (some .boolean)) (F := tm_all) (plainFor_of_name (by decide)) rfl (Nat.le_of_ble_eq_true rfl) hD hF (fun p e s m args below meth c ls C0 hP hS hl => ?_)
  have hl : lv_has ls 1 [(0, .int p0)] := hl
  have C0 : tm_C p m c cX7_isCouple 1 s args wsX7_isCouple RX7 meth (some .boolean) g A L tm_all := C0
  obtain ⟨⟨hx, hb, hml, hown, hts⟩, hr, hlk, hK, hD, hG, hF⟩ := id C0
  unfold f_X7_isCouple at h
  refine lv_iload_n hx hb dX7_isCouple_0 rfl (lv_at hl 0 rfl) ?_
  refine lv_iconst (v := 1) hx hb dX7_isCouple_1 (by decide) ?_
  refine lv_icmp_lt (tgt := 14) hx hb dX7_isCouple_2 (by decide) (fun c1 => ?_) (fun c1 => ?_)
  · rw [if_pos c1] at h
    refine lv_iconst (v := 0) hx hb dX7_isCouple_14 (by decide) ?_
    exact tm_zret C0 (by unfold tm_isB; decide) (by rw [Option.some.inj h]) hP hS dX7_isCouple_15
  · rw [if_neg c1] at h
    refine lv_iload_n hx hb dX7_isCouple_5 rfl (lv_at hl 0 rfl) ?_
    refine lv_iconst (v := 5) hx hb dX7_isCouple_6 (by decide) ?_
    refine lv_icmp_ge (tgt := 14) hx hb dX7_isCouple_7 (by decide) (fun c2 => ?_) (fun c2 => ?_)
    · rw [if_pos c2] at h
      refine lv_iconst (v := 0) hx hb dX7_isCouple_14 (by decide) ?_
      exact tm_zret C0 (by unfold tm_isB; decide) (by rw [Option.some.inj h]) hP hS dX7_isCouple_15
    · rw [if_neg c2] at h
      refine lv_iconst (v := 1) hx hb dX7_isCouple_10 (by decide) ?_
      refine lv_goto (tgt := 15) hx hb dX7_isCouple_11 (by decide) ?_
      exact tm_zret C0 (by unfold tm_isB; decide) (by rw [Option.some.inj h]) hP hS dX7_isCouple_15
/-! X7_append -/
theorem nX7_append_X7 : ∀ w ∈ wsX70, w ∈ wsX7_append := by decide +kernel
theorem kX7_append_0 : Cond.fieldLink RX7 24 "QuarrelDesk$Text" "length" "I" ∈ wsX7_append := by decide +kernel
theorem kX7_append_1 : Cond.fieldLink RX7 11 "QuarrelDesk$Text" "letters" "[I" ∈ wsX7_append := by decide +kernel
def f_X7_append (M : tm_M) (p1 : Int32) : Option (Int32 × tm_M) :=
  if (M 2 4) < 0 then
    some (0, M)
  else
    if (M 2 4) < 160 then
      (tm_wr M 3 160 (M 2 4) p1).bind fun M3 =>
      (some (tm_st M3 2 4 ((M3 2 4) + 1))).bind fun M5 =>
      some (1, M5)
    else
      some (0, M)
set_option maxHeartbeats 4000000 in
set_option maxRecDepth 100000 in
theorem c_X7_append (l : Launch) (g : tm_G) (A : Nat → Prop) (L : List Nat) (hD : ∀ M, va_D A (tm_ws g L M)) (hF : ∀ o, tm_all o → o ∈ L) (M : tm_M) (p1 : Int32) (R0 : Int32 × tm_M) (h : f_X7_append M p1 = some R0) : Met l yX7_append wsX7_append { frames := 0, cells := 0, slots := 0, locals := 0 } (tm_PC g A L M [.ref (g.2.2 + 2), .int p1]) (tm_QI g A L R0) 0 0 A := by
  refine tm_start (cc := cX7_append) (nL := 2) (ret := (some .boolean)) (F := tm_all) (plainFor_of_name (by decide)) rfl (Nat.le_of_ble_eq_true rfl) hD hF (fun p e s m args below meth c ls C0 hP hS hl => ?_)
  have hl : lv_has ls 2 [(0, .ref (g.2.2 + 2)), (1, .int p1)] := hl
  have C0 : tm_C p m c cX7_append 2 s args wsX7_append RX7 meth (some .boolean) g A L tm_all := C0
  obtain ⟨⟨hx, hb, hml, hown, hts⟩, hr, hlk, hK, hD, hG, hF⟩ := id C0
  unfold f_X7_append at h
  refine lv_aload_n hx hb dX7_append_0 rfl (lv_at hl 0 rfl) ?_
  refine tm_get (C := RX7) (T := TX7) (N := 8) (v := .int (M 2 4)) hx hb hts nX7_append_X7 hown hK hP (hF 2 (by decide)) (tm_mkX7 (by decide) _) rfl 4 (by decide) (hts _ kX7_append_0) rfl dX7_append_1 ?_
  refine lv_if_lt (tgt := 17) hx hb dX7_append_4 (by decide) (fun c1 => ?_) (fun c1 => ?_)
  · rw [if_pos c1] at h
    refine lv_iconst (v := 0) hx hb dX7_append_17 (by decide) ?_
    exact tm_zret C0 (by unfold tm_isB; decide) (Option.some.inj h) hP hS dX7_append_18
  · rw [if_neg c1] at h
    refine lv_aload_n hx hb dX7_append_7 rfl (lv_at hl 0 rfl) ?_
    refine tm_get (C := RX7) (T := TX7) (N := 8) (v := .int (M 2 4)) hx hb hts nX7_append_X7 hown hK hP (hF 2 (by decide)) (tm_mkX7 (by decide) _) rfl 4 (by decide) (hts _ kX7_append_0) rfl dX7_append_8 ?_
    refine lv_sipush (v := 160) hx hb dX7_append_11 (by decide) ?_
    refine lv_icmp_lt (tgt := 19) hx hb dX7_append_14 (by decide) (fun c2 => ?_) (fun c2 => ?_)
    · rw [if_pos c2] at h
      refine lv_aload_n hx hb dX7_append_19 rfl (lv_at hl 0 rfl) ?_
      refine tm_get (C := RX7) (T := TX7) (N := 8) (v := .ref (g.2.2 + 3)) hx hb hts nX7_append_X7 hown hK hP (hF 2 (by decide)) (tm_mkX7 (by decide) _) rfl 5 (by decide) (hts _ kX7_append_1) rfl dX7_append_20 ?_
      refine lv_aload_n hx hb dX7_append_23 rfl (lv_at hl 0 rfl) ?_
      refine tm_get (C := RX7) (T := TX7) (N := 8) (v := .int (M 2 4)) hx hb hts nX7_append_X7 hown hK hP (hF 2 (by decide)) (tm_mkX7 (by decide) _) rfl 4 (by decide) (hts _ kX7_append_0) rfl dX7_append_24 ?_
      refine lv_iload_n hx hb dX7_append_27 rfl (lv_at hl 1 rfl) ?_
      obtain ⟨M3, e4, h⟩ := tm_bd_some h
      refine tm_iast hx hb hK hP hD hS (hF 3 (by decide)) (tm_mkI (n := 160) (by decide) (by decide)) e4 dX7_append_28 (fun H locs hP hS => ?_)
      refine lv_aload_n hx hb dX7_append_29 rfl (lv_at hl 0 rfl) ?_
      refine lv_dup hx hb dX7_append_30 rfl ?_
      refine tm_get (C := RX7) (T := TX7) (N := 8) (v := .int (M3 2 4)) hx hb hts nX7_append_X7 hown hK hP (hF 2 (by decide)) (tm_mkX7 (by decide) _) rfl 4 (by decide) (hts _ kX7_append_0) rfl dX7_append_31 ?_
      refine lv_iconst (v := 1) hx hb dX7_append_34 (by decide) ?_
      refine lv_iadd hx hb dX7_append_35 ?_
      obtain ⟨M5, e6, h⟩ := tm_bd_some h
      refine tm_put (C := RX7) (T := TX7) (N := 8) (ty := .int) (x := (M3 2 4) + 1) hx hb hts nX7_append_X7 tyX7 tyX7_ok nmX7 hown hK hP hD hS (hF 2 (by decide)) (tm_mkX7 (by decide)) rfl 4 (by decide) (hts _ kX7_append_0) rfl (by decide +kernel) rfl rfl (Nat.le_of_ble_eq_true rfl) rfl (Option.some.inj e6) dX7_append_36 (fun H locs hP hS => ?_)
      refine lv_iconst (v := 1) hx hb dX7_append_39 (by decide) ?_
      exact tm_zret C0 (by unfold tm_isB; decide) (Option.some.inj h) hP hS dX7_append_40
    · rw [if_neg c2] at h
      refine lv_iconst (v := 0) hx hb dX7_append_17 (by decide) ?_
      exact tm_zret C0 (by unfold tm_isB; decide) (Option.some.inj h) hP hS dX7_append_18
/-! X7_letterAt -/
theorem nX7_letterAt_X7 : ∀ w ∈ wsX70, w ∈ wsX7_letterAt := by decide +kernel
theorem kX7_letterAt_0 : Cond.fieldLink RX7 24 "QuarrelDesk$Text" "length" "I" ∈ wsX7_letterAt := by decide +kernel
theorem kX7_letterAt_1 : Cond.fieldLink RX7 11 "QuarrelDesk$Text" "letters" "[I" ∈ wsX7_letterAt := by decide +kernel
def f_X7_letterAt (M : tm_M) (p1 : Int32) : Option Int32 :=
  if p1 < 0 then
    some 32
  else
    if (M 2 4) ≤ p1 then
      some 32
    else
      if 160 ≤ p1 then
        some 32
      else
        (tm_rd M 3 160 p1).bind fun x4 =>
        some x4
set_option maxHeartbeats 4000000 in
set_option maxRecDepth 100000 in
theorem c_X7_letterAt (l : Launch) (g : tm_G) (A : Nat → Prop) (L : List Nat) (hD : ∀ M, va_D A (tm_ws g L M)) (hF : ∀ o, tm_all o → o ∈ L) (M : tm_M) (p1 : Int32) (r0 : Int32) (h : f_X7_letterAt M p1 = some r0) : Met l yX7_letterAt wsX7_letterAt { frames := 0, cells := 0, slots := 0, locals := 0 } (tm_PC g A L M [.ref (g.2.2 + 2), .int p1]) (tm_QI g A L (r0, M)) 0 0 A := by
  refine tm_start (cc := cX7_letterAt) (nL := 2) (ret := (some .int)) (F := tm_all) (plainFor_of_name (by decide)) rfl (Nat.le_of_ble_eq_true rfl) hD hF (fun p e s m args below meth c ls C0 hP hS hl => ?_)
  have hl : lv_has ls 2 [(0, .ref (g.2.2 + 2)), (1, .int p1)] := hl
  have C0 : tm_C p m c cX7_letterAt 2 s args wsX7_letterAt RX7 meth (some .int) g A L tm_all := C0
  obtain ⟨⟨hx, hb, hml, hown, hts⟩, hr, hlk, hK, hD, hG, hF⟩ := id C0
  unfold f_X7_letterAt at h
  refine lv_iload_n hx hb dX7_letterAt_0 rfl (lv_at hl 1 rfl) ?_
  refine lv_if_lt (tgt := 28) hx hb dX7_letterAt_1 (by decide) (fun c1 => ?_) (fun c1 => ?_)
  · rw [if_pos c1] at h
    refine lv_bipush (v := 32) hx hb dX7_letterAt_28 (by decide) ?_
    exact tm_iret C0 (by rw [Option.some.inj h]) hP hS dX7_letterAt_30
  · rw [if_neg c1] at h
    refine lv_iload_n hx hb dX7_letterAt_4 rfl (lv_at hl 1 rfl) ?_
    refine lv_aload_n hx hb dX7_letterAt_5 rfl (lv_at hl 0 rfl) ?_
    refine tm_get (C := RX7) (T := TX7) (N := 8) (v := .int (M 2 4)) hx hb hts nX7_letterAt_X7 hown hK hP (hF 2 (by decide)) (tm_mkX7 (by decide) _) rfl 4 (by decide) (hts _ kX7_letterAt_0) rfl dX7_letterAt_6 ?_
    refine lv_icmp_ge (tgt := 28) hx hb dX7_letterAt_9 (by decide) (fun c2 => ?_) (fun c2 => ?_)
    · rw [if_pos c2] at h
      refine lv_bipush (v := 32) hx hb dX7_letterAt_28 (by decide) ?_
      exact tm_iret C0 (by rw [Option.some.inj h]) hP hS dX7_letterAt_30
    · rw [if_neg c2] at h
      refine lv_iload_n hx hb dX7_letterAt_12 rfl (lv_at hl 1 rfl) ?_
      refine lv_sipush (v := 160) hx hb dX7_letterAt_13 (by decide) ?_
      refine lv_icmp_ge (tgt := 28) hx hb dX7_letterAt_16 (by decide) (fun c3 => ?_) (fun c3 => ?_)
      · rw [if_pos c3] at h
        refine lv_bipush (v := 32) hx hb dX7_letterAt_28 (by decide) ?_
        exact tm_iret C0 (by rw [Option.some.inj h]) hP hS dX7_letterAt_30
      · rw [if_neg c3] at h
        refine lv_aload_n hx hb dX7_letterAt_19 rfl (lv_at hl 0 rfl) ?_
        refine tm_get (C := RX7) (T := TX7) (N := 8) (v := .ref (g.2.2 + 3)) hx hb hts nX7_letterAt_X7 hown hK hP (hF 2 (by decide)) (tm_mkX7 (by decide) _) rfl 5 (by decide) (hts _ kX7_letterAt_1) rfl dX7_letterAt_20 ?_
        refine lv_iload_n hx hb dX7_letterAt_23 rfl (lv_at hl 1 rfl) ?_
        obtain ⟨x4, e5, h⟩ := tm_bd_some h
        refine tm_iald hx hb hK hP (hF 3 (by decide)) (tm_mkI (n := 160) (by decide) (by decide)) e5 dX7_letterAt_24 ?_
        refine lv_goto (tgt := 30) hx hb dX7_letterAt_25 (by decide) ?_
        exact tm_iret C0 (by rw [Option.some.inj h]) hP hS dX7_letterAt_30
