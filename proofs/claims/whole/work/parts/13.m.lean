/-! X10_claimOf -/
theorem nX10_claimOf_X10 : ∀ w ∈ wsX100, w ∈ wsX10_claimOf := by decide +kernel
theorem kX10_claimOf_0 : Cond.fieldLink RX10 22 "QuarrelDeskModel" "row" "[I" ∈ wsX10_claimOf := by decide +kernel
theorem kX10_claimOf_1 : Cond.fieldLink RX10 29 "QuarrelDeskModel" "kinds" "[I" ∈ wsX10_claimOf := by decide +kernel
def f_X10_claimOf (M : tm_M) (p1 : Int32) (p2 : Int32) : Option Int32 :=
  (tm_rd M 132 672 (p1 + 19)).bind fun x1 =>
  (f_X10_has x1 p2).bind fun r3 =>
  if r3 = 0 then
    (tm_rd M 134 6 p2).bind fun x21 =>
    if x21 = 2 then
      (tm_rd M 132 672 (p1 + 0)).bind fun x41 =>
      if (x41 - x41 / 7 * 7) = 6 then
        (tm_rd M 132 672 ((p1 + 7) + p2)).bind fun x44 =>
        (f_X10_termOf M p1 1).bind fun r46 =>
        if r46 ≤ x44 then
          (f_X10_termOf M p1 1).bind fun r49 =>
          (f_X10_termOf M p1 0).bind fun r51 =>
          (some (r49 - r51)).bind fun x53 =>
          if 0 ≤ x53 then
            some x53
          else
            some 0
        else
          (f_X10_termOf M p1 0).bind fun r56 =>
          (some (x44 - r56)).bind fun x58 =>
          if 0 ≤ x58 then
            some x58
          else
            some 0
      else
        (tm_rd M 132 672 ((p1 + 7) + p2)).bind fun x61 =>
        (f_X10_termOf M p1 1).bind fun r63 =>
        if r63 ≤ x61 then
          (f_X10_termOf M p1 1).bind fun r66 =>
          (f_X10_termOf M p1 0).bind fun r68 =>
          (some (r66 - r68)).bind fun x70 =>
          some 0
        else
          (f_X10_termOf M p1 0).bind fun r72 =>
          (some (x61 - r72)).bind fun x74 =>
          some 0
    else
      (tm_rd M 132 672 ((p1 + 7) + p2)).bind fun x24 =>
      (f_X10_termOf M p1 1).bind fun r26 =>
      if r26 ≤ x24 then
        (f_X10_termOf M p1 1).bind fun r29 =>
        (f_X10_termOf M p1 0).bind fun r31 =>
        (some (r29 - r31)).bind fun x33 =>
        if 0 ≤ x33 then
          some x33
        else
          some 0
      else
        (f_X10_termOf M p1 0).bind fun r36 =>
        (some (x24 - r36)).bind fun x38 =>
        if 0 ≤ x38 then
          some x38
        else
          some 0
  else
    (tm_rd M 132 672 ((p1 + 7) + p2)).bind fun x6 =>
    (f_X10_termOf M p1 1).bind fun r8 =>
    if r8 ≤ x6 then
      (f_X10_termOf M p1 1).bind fun r11 =>
      (f_X10_termOf M p1 0).bind fun r13 =>
      (some (r11 - r13)).bind fun x15 =>
      some 0
    else
      (f_X10_termOf M p1 0).bind fun r17 =>
      (some (x6 - r17)).bind fun x19 =>
      some 0
set_option maxHeartbeats 4000000 in
set_option maxRecDepth 100000 in
theorem c_X10_claimOf (l : Launch) (g : tm_G) (A : Nat → Prop) (L : List Nat) (hD : ∀ M, va_D A (tm_ws g L M)) (hF : ∀ o, tm_all o → o ∈ L) (M : tm_M) (p1 : Int32) (p2 : Int32) (r0 : Int32) (h : f_X10_claimOf M p1 p2 = some r0) : Met l yX10_claimOf wsX10_claimOf { frames := 1, cells := 0, slots := 0, locals := 22 } (tm_PC g A L M [.ref (g.2.2 + 127), .int p1, .int p2]) (tm_QI g A L (r0, M)) 0 0 A := by
  refine tm_start (cc := cX10_claimOf) (nL := 6) (ret := (some .int)) (F := tm_all) (plainFor_of_name (by decide)) rfl (Nat.le_of_ble_eq_true rfl) hD hF (fun p e s m args below meth c ls C0 hP hS hl => ?_)
  have hl : lv_has ls 6 [(0, .ref (g.2.2 + 127)), (1, .int p1), (2, .int p2)] := hl
  have C0 : tm_C p m c cX10_claimOf 6 s args wsX10_claimOf RX10 meth (some .int) g A L tm_all := C0
  obtain ⟨⟨hx, hb, hml, hown, hts⟩, hr, hlk, hK, hD, hG, hF⟩ := id C0
  unfold f_X10_claimOf at h
  refine lv_aload_n hx hb dX10_claimOf_0 rfl (lv_at hl 0 rfl) ?_
  refine tm_get (C := RX10) (T := TX10) (N := 23) (v := .ref (g.2.2 + 132)) hx hb hts nX10_claimOf_X10 hown hK hP (hF 127 (by decide)) (tm_mkX10 (by decide) _) rfl 4 (by decide) (hts _ kX10_claimOf_0) rfl dX10_claimOf_1 ?_
  refine lv_iload_n hx hb dX10_claimOf_4 rfl (lv_at hl 1 rfl) ?_
  refine lv_bipush (v := 19) hx hb dX10_claimOf_5 (by decide) ?_
  refine lv_iadd hx hb dX10_claimOf_7 ?_
  obtain ⟨x1, e2, h⟩ := tm_bd_some h
  refine tm_iald hx hb hK hP (hF 132 (by decide)) (tm_mkI (n := 672) (by decide) (by decide)) e2 dX10_claimOf_8 ?_
  refine lv_iload_n hx hb dX10_claimOf_9 rfl (lv_at hl 2 rfl) ?_
  obtain ⟨r3, e4, h⟩ := tm_bd_some h
  refine tm_backI (r0 := r3) (M0 := M) (fun _ q => q) (tm_callS (As := [.int x1, .int p2]) (rest := []) ⟨hx, hb, hml, hown, hts⟩ hK hG hP hS (c_X10_has l g A L hD hF M x1 p2 r3 e4) (va_cwS 2 hts gX10_claimOf_X10_has rfl rfl rfl (by decide +kernel) ⟨Nat.le_of_ble_eq_true rfl, Nat.le_of_ble_eq_true rfl⟩) rfl hl.1 (lv_room (Nat.le_of_ble_eq_true rfl)) dX10_claimOf_10 ⟨Nat.zero_le _, Nat.zero_le _⟩) hS (fun H locs hP hS => ?_)
  refine lv_if_ne (tgt := 42) hx hb dX10_claimOf_13 (by decide) (fun c5 => ?_) (fun c5 => ?_)
  · rw [if_neg c5] at h
    refine lv_iconst (v := 1) hx hb dX10_claimOf_42 (by decide) ?_
    refine lv_goto (tgt := 47) hx hb dX10_claimOf_43 (by decide) ?_
    refine lv_istore_n (lv' := [(3, .int 1), (0, .ref (g.2.2 + 127)), (1, .int p1), (2, .int p2)]) hx hb dX10_claimOf_47 rfl hl (by decide) rfl (fun ls hl => ?_)
    refine lv_aload_n hx hb dX10_claimOf_48 rfl (lv_at hl 1 rfl) ?_
    refine tm_get (C := RX10) (T := TX10) (N := 23) (v := .ref (g.2.2 + 132)) hx hb hts nX10_claimOf_X10 hown hK hP (hF 127 (by decide)) (tm_mkX10 (by decide) _) rfl 4 (by decide) (hts _ kX10_claimOf_0) rfl dX10_claimOf_49 ?_
    refine lv_iload_n hx hb dX10_claimOf_52 rfl (lv_at hl 2 rfl) ?_
    refine lv_bipush (v := 7) hx hb dX10_claimOf_53 (by decide) ?_
    refine lv_iadd hx hb dX10_claimOf_55 ?_
    refine lv_iload_n hx hb dX10_claimOf_56 rfl (lv_at hl 3 rfl) ?_
    refine lv_iadd hx hb dX10_claimOf_57 ?_
    obtain ⟨x6, e7, h⟩ := tm_bd_some h
    refine tm_iald hx hb hK hP (hF 132 (by decide)) (tm_mkI (n := 672) (by decide) (by decide)) e7 dX10_claimOf_58 ?_
    refine lv_istore (lv' := [(4, .int x6), (3, .int 1), (0, .ref (g.2.2 + 127)), (1, .int p1), (2, .int p2)]) hx hb dX10_claimOf_59 hl (by decide) rfl (fun ls hl => ?_)
    refine lv_iload hx hb dX10_claimOf_61 (lv_at hl 0 rfl) ?_
    refine lv_aload_n hx hb dX10_claimOf_63 rfl (lv_at hl 2 rfl) ?_
    refine lv_iload_n hx hb dX10_claimOf_64 rfl (lv_at hl 3 rfl) ?_
    refine lv_iconst (v := 1) hx hb dX10_claimOf_65 (by decide) ?_
    obtain ⟨r8, e9, h⟩ := tm_bd_some h
    refine tm_backI (r0 := r8) (M0 := M) (fun _ q => q) (tm_callV (As := [.int p1, .int 1]) (rest := [.int x6]) ⟨hx, hb, hml, hown, hts⟩ hK hG hP hS (c_X10_termOf l g A L hD hF M p1 1 r8 e9) (cwV 2 hts gX10_claimOf_X10_termOf rfl rfl rfl (by decide +kernel) ⟨Nat.le_of_ble_eq_true rfl, Nat.le_of_ble_eq_true rfl⟩) (tm_recv hK hP (hF 127 (by decide)) (ci := 9) rfl (tm_mkX10 (by decide) _)) rfl hl.1 (lv_room (Nat.le_of_ble_eq_true rfl)) dX10_claimOf_66 ⟨Nat.zero_le _, Nat.zero_le _⟩) hS (fun H locs hP hS => ?_)
    refine lv_icmp_ge (tgt := 77) hx hb dX10_claimOf_69 (by decide) (fun c10 => ?_) (fun c10 => ?_)
    · rw [if_pos c10] at h
      refine lv_aload_n hx hb dX10_claimOf_77 rfl (lv_at hl 2 rfl) ?_
      refine lv_iload_n hx hb dX10_claimOf_78 rfl (lv_at hl 3 rfl) ?_
      refine lv_iconst (v := 1) hx hb dX10_claimOf_79 (by decide) ?_
      obtain ⟨r11, e12, h⟩ := tm_bd_some h
      refine tm_backI (r0 := r11) (M0 := M) (fun _ q => q) (tm_callV (As := [.int p1, .int 1]) (rest := []) ⟨hx, hb, hml, hown, hts⟩ hK hG hP hS (c_X10_termOf l g A L hD hF M p1 1 r11 e12) (cwV 2 hts gX10_claimOf_X10_termOf rfl rfl rfl (by decide +kernel) ⟨Nat.le_of_ble_eq_true rfl, Nat.le_of_ble_eq_true rfl⟩) (tm_recv hK hP (hF 127 (by decide)) (ci := 9) rfl (tm_mkX10 (by decide) _)) rfl hl.1 (lv_room (Nat.le_of_ble_eq_true rfl)) dX10_claimOf_80 ⟨Nat.zero_le _, Nat.zero_le _⟩) hS (fun H locs hP hS => ?_)
      refine lv_istore (lv' := [(5, .int r11), (4, .int x6), (3, .int 1), (0, .ref (g.2.2 + 127)), (1, .int p1), (2, .int p2)]) hx hb dX10_claimOf_83 hl (by decide) rfl (fun ls hl => ?_)
      refine lv_iload hx hb dX10_claimOf_85 (lv_at hl 0 rfl) ?_
      refine lv_aload_n hx hb dX10_claimOf_87 rfl (lv_at hl 3 rfl) ?_
      refine lv_iload_n hx hb dX10_claimOf_88 rfl (lv_at hl 4 rfl) ?_
      refine lv_iconst (v := 0) hx hb dX10_claimOf_89 (by decide) ?_
      obtain ⟨r13, e14, h⟩ := tm_bd_some h
      refine tm_backI (r0 := r13) (M0 := M) (fun _ q => q) (tm_callV (As := [.int p1, .int 0]) (rest := [.int r11]) ⟨hx, hb, hml, hown, hts⟩ hK hG hP hS (c_X10_termOf l g A L hD hF M p1 0 r13 e14) (cwV 2 hts gX10_claimOf_X10_termOf rfl rfl rfl (by decide +kernel) ⟨Nat.le_of_ble_eq_true rfl, Nat.le_of_ble_eq_true rfl⟩) (tm_recv hK hP (hF 127 (by decide)) (ci := 9) rfl (tm_mkX10 (by decide) _)) rfl hl.1 (lv_room (Nat.le_of_ble_eq_true rfl)) dX10_claimOf_90 ⟨Nat.zero_le _, Nat.zero_le _⟩) hS (fun H locs hP hS => ?_)
      refine lv_isub hx hb dX10_claimOf_93 ?_
      refine tm_nam h (fun x15 h => ?_)
      refine lv_istore (lv' := [(5, .int x15), (4, .int x6), (3, .int 1), (0, .ref (g.2.2 + 127)), (1, .int p1), (2, .int p2)]) hx hb dX10_claimOf_94 hl (by decide) rfl (fun ls hl => ?_)
      refine lv_iload_n hx hb dX10_claimOf_96 rfl (lv_at hl 2 rfl) ?_
      refine lv_if_ne (tgt := 105) hx hb dX10_claimOf_97 (by decide) (fun _ => ?_) (fun c16 => absurd c16 (by decide))
      refine lv_iconst (v := 0) hx hb dX10_claimOf_105 (by decide) ?_
      refine lv_goto (tgt := 111) hx hb dX10_claimOf_106 (by decide) ?_
      exact tm_iret C0 (by rw [Option.some.inj h]) hP hS dX10_claimOf_111
    · rw [if_neg c10] at h
      refine lv_iload hx hb dX10_claimOf_72 (lv_at hl 0 rfl) ?_
      refine lv_goto (tgt := 83) hx hb dX10_claimOf_74 (by decide) ?_
      refine lv_istore (lv' := [(5, .int x6), (4, .int x6), (3, .int 1), (0, .ref (g.2.2 + 127)), (1, .int p1), (2, .int p2)]) hx hb dX10_claimOf_83 hl (by decide) rfl (fun ls hl => ?_)
      refine lv_iload hx hb dX10_claimOf_85 (lv_at hl 0 rfl) ?_
      refine lv_aload_n hx hb dX10_claimOf_87 rfl (lv_at hl 3 rfl) ?_
      refine lv_iload_n hx hb dX10_claimOf_88 rfl (lv_at hl 4 rfl) ?_
      refine lv_iconst (v := 0) hx hb dX10_claimOf_89 (by decide) ?_
      obtain ⟨r17, e18, h⟩ := tm_bd_some h
      refine tm_backI (r0 := r17) (M0 := M) (fun _ q => q) (tm_callV (As := [.int p1, .int 0]) (rest := [.int x6]) ⟨hx, hb, hml, hown, hts⟩ hK hG hP hS (c_X10_termOf l g A L hD hF M p1 0 r17 e18) (cwV 2 hts gX10_claimOf_X10_termOf rfl rfl rfl (by decide +kernel) ⟨Nat.le_of_ble_eq_true rfl, Nat.le_of_ble_eq_true rfl⟩) (tm_recv hK hP (hF 127 (by decide)) (ci := 9) rfl (tm_mkX10 (by decide) _)) rfl hl.1 (lv_room (Nat.le_of_ble_eq_true rfl)) dX10_claimOf_90 ⟨Nat.zero_le _, Nat.zero_le _⟩) hS (fun H locs hP hS => ?_)
      refine lv_isub hx hb dX10_claimOf_93 ?_
      refine tm_nam h (fun x19 h => ?_)
      refine lv_istore (lv' := [(5, .int x19), (4, .int x6), (3, .int 1), (0, .ref (g.2.2 + 127)), (1, .int p1), (2, .int p2)]) hx hb dX10_claimOf_94 hl (by decide) rfl (fun ls hl => ?_)
      refine lv_iload_n hx hb dX10_claimOf_96 rfl (lv_at hl 2 rfl) ?_
      refine lv_if_ne (tgt := 105) hx hb dX10_claimOf_97 (by decide) (fun _ => ?_) (fun c20 => absurd c20 (by decide))
      refine lv_iconst (v := 0) hx hb dX10_claimOf_105 (by decide) ?_
      refine lv_goto (tgt := 111) hx hb dX10_claimOf_106 (by decide) ?_
      exact tm_iret C0 (by rw [Option.some.inj h]) hP hS dX10_claimOf_111
  · rw [if_pos c5] at h
    refine lv_aload_n hx hb dX10_claimOf_16 rfl (lv_at hl 0 rfl) ?_
    refine tm_get (C := RX10) (T := TX10) (N := 23) (v := .ref (g.2.2 + 134)) hx hb hts nX10_claimOf_X10 hown hK hP (hF 127 (by decide)) (tm_mkX10 (by decide) _) rfl 8 (by decide) (hts _ kX10_claimOf_1) rfl dX10_claimOf_17 ?_
    refine lv_iload_n hx hb dX10_claimOf_20 rfl (lv_at hl 2 rfl) ?_
    obtain ⟨x21, e22, h⟩ := tm_bd_some h
    refine tm_iald hx hb hK hP (hF 134 (by decide)) (tm_mkI (n := 6) (by decide) (by decide)) e22 dX10_claimOf_21 ?_
    refine lv_iconst (v := 2) hx hb dX10_claimOf_22 (by decide) ?_
    refine lv_icmp_ne (tgt := 46) hx hb dX10_claimOf_23 (by decide) (fun c23 => ?_) (fun c23 => ?_)
    · rw [if_neg c23] at h
      refine lv_iconst (v := 0) hx hb dX10_claimOf_46 (by decide) ?_
      refine lv_istore_n (lv' := [(3, .int 0), (0, .ref (g.2.2 + 127)), (1, .int p1), (2, .int p2)]) hx hb dX10_claimOf_47 rfl hl (by decide) rfl (fun ls hl => ?_)
      refine lv_aload_n hx hb dX10_claimOf_48 rfl (lv_at hl 1 rfl) ?_
      refine tm_get (C := RX10) (T := TX10) (N := 23) (v := .ref (g.2.2 + 132)) hx hb hts nX10_claimOf_X10 hown hK hP (hF 127 (by decide)) (tm_mkX10 (by decide) _) rfl 4 (by decide) (hts _ kX10_claimOf_0) rfl dX10_claimOf_49 ?_
      refine lv_iload_n hx hb dX10_claimOf_52 rfl (lv_at hl 2 rfl) ?_
      refine lv_bipush (v := 7) hx hb dX10_claimOf_53 (by decide) ?_
      refine lv_iadd hx hb dX10_claimOf_55 ?_
      refine lv_iload_n hx hb dX10_claimOf_56 rfl (lv_at hl 3 rfl) ?_
      refine lv_iadd hx hb dX10_claimOf_57 ?_
      obtain ⟨x24, e25, h⟩ := tm_bd_some h
      refine tm_iald hx hb hK hP (hF 132 (by decide)) (tm_mkI (n := 672) (by decide) (by decide)) e25 dX10_claimOf_58 ?_
      refine lv_istore (lv' := [(4, .int x24), (3, .int 0), (0, .ref (g.2.2 + 127)), (1, .int p1), (2, .int p2)]) hx hb dX10_claimOf_59 hl (by decide) rfl (fun ls hl => ?_)
      refine lv_iload hx hb dX10_claimOf_61 (lv_at hl 0 rfl) ?_
      refine lv_aload_n hx hb dX10_claimOf_63 rfl (lv_at hl 2 rfl) ?_
      refine lv_iload_n hx hb dX10_claimOf_64 rfl (lv_at hl 3 rfl) ?_
      refine lv_iconst (v := 1) hx hb dX10_claimOf_65 (by decide) ?_
      obtain ⟨r26, e27, h⟩ := tm_bd_some h
      refine tm_backI (r0 := r26) (M0 := M) (fun _ q => q) (tm_callV (As := [.int p1, .int 1]) (rest := [.int x24]) ⟨hx, hb, hml, hown, hts⟩ hK hG hP hS (c_X10_termOf l g A L hD hF M p1 1 r26 e27) (cwV 2 hts gX10_claimOf_X10_termOf rfl rfl rfl (by decide +kernel) ⟨Nat.le_of_ble_eq_true rfl, Nat.le_of_ble_eq_true rfl⟩) (tm_recv hK hP (hF 127 (by decide)) (ci := 9) rfl (tm_mkX10 (by decide) _)) rfl hl.1 (lv_room (Nat.le_of_ble_eq_true rfl)) dX10_claimOf_66 ⟨Nat.zero_le _, Nat.zero_le _⟩) hS (fun H locs hP hS => ?_)
      refine lv_icmp_ge (tgt := 77) hx hb dX10_claimOf_69 (by decide) (fun c28 => ?_) (fun c28 => ?_)
      · rw [if_pos c28] at h
        refine lv_aload_n hx hb dX10_claimOf_77 rfl (lv_at hl 2 rfl) ?_
        refine lv_iload_n hx hb dX10_claimOf_78 rfl (lv_at hl 3 rfl) ?_
        refine lv_iconst (v := 1) hx hb dX10_claimOf_79 (by decide) ?_
        obtain ⟨r29, e30, h⟩ := tm_bd_some h
        refine tm_backI (r0 := r29) (M0 := M) (fun _ q => q) (tm_callV (As := [.int p1, .int 1]) (rest := []) ⟨hx, hb, hml, hown, hts⟩ hK hG hP hS (c_X10_termOf l g A L hD hF M p1 1 r29 e30) (cwV 2 hts gX10_claimOf_X10_termOf rfl rfl rfl (by decide +kernel) ⟨Nat.le_of_ble_eq_true rfl, Nat.le_of_ble_eq_true rfl⟩) (tm_recv hK hP (hF 127 (by decide)) (ci := 9) rfl (tm_mkX10 (by decide) _)) rfl hl.1 (lv_room (Nat.le_of_ble_eq_true rfl)) dX10_claimOf_80 ⟨Nat.zero_le _, Nat.zero_le _⟩) hS (fun H locs hP hS => ?_)
        refine lv_istore (lv' := [(5, .int r29), (4, .int x24), (3, .int 0), (0, .ref (g.2.2 + 127)), (1, .int p1), (2, .int p2)]) hx hb dX10_claimOf_83 hl (by decide) rfl (fun ls hl => ?_)
        refine lv_iload hx hb dX10_claimOf_85 (lv_at hl 0 rfl) ?_
        refine lv_aload_n hx hb dX10_claimOf_87 rfl (lv_at hl 3 rfl) ?_
        refine lv_iload_n hx hb dX10_claimOf_88 rfl (lv_at hl 4 rfl) ?_
        refine lv_iconst (v := 0) hx hb dX10_claimOf_89 (by decide) ?_
        obtain ⟨r31, e32, h⟩ := tm_bd_some h
        refine tm_backI (r0 := r31) (M0 := M) (fun _ q => q) (tm_callV (As := [.int p1, .int 0]) (rest := [.int r29]) ⟨hx, hb, hml, hown, hts⟩ hK hG hP hS (c_X10_termOf l g A L hD hF M p1 0 r31 e32) (cwV 2 hts gX10_claimOf_X10_termOf rfl rfl rfl (by decide +kernel) ⟨Nat.le_of_ble_eq_true rfl, Nat.le_of_ble_eq_true rfl⟩) (tm_recv hK hP (hF 127 (by decide)) (ci := 9) rfl (tm_mkX10 (by decide) _)) rfl hl.1 (lv_room (Nat.le_of_ble_eq_true rfl)) dX10_claimOf_90 ⟨Nat.zero_le _, Nat.zero_le _⟩) hS (fun H locs hP hS => ?_)
        refine lv_isub hx hb dX10_claimOf_93 ?_
        refine tm_nam h (fun x33 h => ?_)
        refine lv_istore (lv' := [(5, .int x33), (4, .int x24), (3, .int 0), (0, .ref (g.2.2 + 127)), (1, .int p1), (2, .int p2)]) hx hb dX10_claimOf_94 hl (by decide) rfl (fun ls hl => ?_)
        refine lv_iload_n hx hb dX10_claimOf_96 rfl (lv_at hl 2 rfl) ?_
        refine lv_if_ne (tgt := 105) hx hb dX10_claimOf_97 (by decide) (fun c34 => absurd (by decide) c34) (fun _ => ?_)
        refine lv_iload hx hb dX10_claimOf_100 (lv_at hl 0 rfl) ?_
        refine lv_if_ge (tgt := 109) hx hb dX10_claimOf_102 (by decide) (fun c35 => ?_) (fun c35 => ?_)
        · rw [if_pos c35] at h
          refine lv_iload hx hb dX10_claimOf_109 (lv_at hl 0 rfl) ?_
          exact tm_iret C0 (by rw [Option.some.inj h]) hP hS dX10_claimOf_111
        · rw [if_neg c35] at h
          refine lv_iconst (v := 0) hx hb dX10_claimOf_105 (by decide) ?_
          refine lv_goto (tgt := 111) hx hb dX10_claimOf_106 (by decide) ?_
          exact tm_iret C0 (by rw [Option.some.inj h]) hP hS dX10_claimOf_111
      · rw [if_neg c28] at h
        refine lv_iload hx hb dX10_claimOf_72 (lv_at hl 0 rfl) ?_
        refine lv_goto (tgt := 83) hx hb dX10_claimOf_74 (by decide) ?_
        refine lv_istore (lv' := [(5, .int x24), (4, .int x24), (3, .int 0), (0, .ref (g.2.2 + 127)), (1, .int p1), (2, .int p2)]) hx hb dX10_claimOf_83 hl (by decide) rfl (fun ls hl => ?_)
        refine lv_iload hx hb dX10_claimOf_85 (lv_at hl 0 rfl) ?_
        refine lv_aload_n hx hb dX10_claimOf_87 rfl (lv_at hl 3 rfl) ?_
        refine lv_iload_n hx hb dX10_claimOf_88 rfl (lv_at hl 4 rfl) ?_
        refine lv_iconst (v := 0) hx hb dX10_claimOf_89 (by decide) ?_
        obtain ⟨r36, e37, h⟩ := tm_bd_some h
        refine tm_backI (r0 := r36) (M0 := M) (fun _ q => q) (tm_callV (As := [.int p1, .int 0]) (rest := [.int x24]) ⟨hx, hb, hml, hown, hts⟩ hK hG hP hS (c_X10_termOf l g A L hD hF M p1 0 r36 e37) (cwV 2 hts gX10_claimOf_X10_termOf rfl rfl rfl (by decide +kernel) ⟨Nat.le_of_ble_eq_true rfl, Nat.le_of_ble_eq_true rfl⟩) (tm_recv hK hP (hF 127 (by decide)) (ci := 9) rfl (tm_mkX10 (by decide) _)) rfl hl.1 (lv_room (Nat.le_of_ble_eq_true rfl)) dX10_claimOf_90 ⟨Nat.zero_le _, Nat.zero_le _⟩) hS (fun H locs hP hS => ?_)
        refine lv_isub hx hb dX10_claimOf_93 ?_
        refine tm_nam h (fun x38 h => ?_)
        refine lv_istore (lv' := [(5, .int x38), (4, .int x24), (3, .int 0), (0, .ref (g.2.2 + 127)), (1, .int p1), (2, .int p2)]) hx hb dX10_claimOf_94 hl (by decide) rfl (fun ls hl => ?_)
        refine lv_iload_n hx hb dX10_claimOf_96 rfl (lv_at hl 2 rfl) ?_
        refine lv_if_ne (tgt := 105) hx hb dX10_claimOf_97 (by decide) (fun c39 => absurd (by decide) c39) (fun _ => ?_)
        refine lv_iload hx hb dX10_claimOf_100 (lv_at hl 0 rfl) ?_
        refine lv_if_ge (tgt := 109) hx hb dX10_claimOf_102 (by decide) (fun c40 => ?_) (fun c40 => ?_)
        · rw [if_pos c40] at h
          refine lv_iload hx hb dX10_claimOf_109 (lv_at hl 0 rfl) ?_
          exact tm_iret C0 (by rw [Option.some.inj h]) hP hS dX10_claimOf_111
        · rw [if_neg c40] at h
          refine lv_iconst (v := 0) hx hb dX10_claimOf_105 (by decide) ?_
          refine lv_goto (tgt := 111) hx hb dX10_claimOf_106 (by decide) ?_
          exact tm_iret C0 (by rw [Option.some.inj h]) hP hS dX10_claimOf_111
    · rw [if_pos c23] at h
      refine lv_aload_n hx hb dX10_claimOf_26 rfl (lv_at hl 0 rfl) ?_
      refine tm_get (C := RX10) (T := TX10) (N := 23) (v := .ref (g.2.2 + 132)) hx hb hts nX10_claimOf_X10 hown hK hP (hF 127 (by decide)) (tm_mkX10 (by decide) _) rfl 4 (by decide) (hts _ kX10_claimOf_0) rfl dX10_claimOf_27 ?_
      refine lv_iload_n hx hb dX10_claimOf_30 rfl (lv_at hl 1 rfl) ?_
      refine lv_iconst (v := 0) hx hb dX10_claimOf_31 (by decide) ?_
      refine lv_iadd hx hb dX10_claimOf_32 ?_
      obtain ⟨x41, e42, h⟩ := tm_bd_some h
      refine tm_iald hx hb hK hP (hF 132 (by decide)) (tm_mkI (n := 672) (by decide) (by decide)) e42 dX10_claimOf_33 ?_
      refine lv_bipush (v := 7) hx hb dX10_claimOf_34 (by decide) ?_
      refine lv_irem hx hb dX10_claimOf_36 (by decide) ?_
      refine lv_bipush (v := 6) hx hb dX10_claimOf_37 (by decide) ?_
      refine lv_icmp_eq (tgt := 46) hx hb dX10_claimOf_39 (by decide) (fun c43 => ?_) (fun c43 => ?_)
      · rw [if_pos c43] at h
        refine lv_iconst (v := 0) hx hb dX10_claimOf_46 (by decide) ?_
        refine lv_istore_n (lv' := [(3, .int 0), (0, .ref (g.2.2 + 127)), (1, .int p1), (2, .int p2)]) hx hb dX10_claimOf_47 rfl hl (by decide) rfl (fun ls hl => ?_)
        refine lv_aload_n hx hb dX10_claimOf_48 rfl (lv_at hl 1 rfl) ?_
        refine tm_get (C := RX10) (T := TX10) (N := 23) (v := .ref (g.2.2 + 132)) hx hb hts nX10_claimOf_X10 hown hK hP (hF 127 (by decide)) (tm_mkX10 (by decide) _) rfl 4 (by decide) (hts _ kX10_claimOf_0) rfl dX10_claimOf_49 ?_
        refine lv_iload_n hx hb dX10_claimOf_52 rfl (lv_at hl 2 rfl) ?_
        refine lv_bipush (v := 7) hx hb dX10_claimOf_53 (by decide) ?_
        refine lv_iadd hx hb dX10_claimOf_55 ?_
        refine lv_iload_n hx hb dX10_claimOf_56 rfl (lv_at hl 3 rfl) ?_
        refine lv_iadd hx hb dX10_claimOf_57 ?_
        obtain ⟨x44, e45, h⟩ := tm_bd_some h
        refine tm_iald hx hb hK hP (hF 132 (by decide)) (tm_mkI (n := 672) (by decide) (by decide)) e45 dX10_claimOf_58 ?_
        refine lv_istore (lv' := [(4, .int x44), (3, .int 0), (0, .ref (g.2.2 + 127)), (1, .int p1), (2, .int p2)]) hx hb dX10_claimOf_59 hl (by decide) rfl (fun ls hl => ?_)
        refine lv_iload hx hb dX10_claimOf_61 (lv_at hl 0 rfl) ?_
        refine lv_aload_n hx hb dX10_claimOf_63 rfl (lv_at hl 2 rfl) ?_
        refine lv_iload_n hx hb dX10_claimOf_64 rfl (lv_at hl 3 rfl) ?_
        refine lv_iconst (v := 1) hx hb dX10_claimOf_65 (by decide) ?_
        obtain ⟨r46, e47, h⟩ := tm_bd_some h
        refine tm_backI (r0 := r46) (M0 := M) (fun _ q => q) (tm_callV (As := [.int p1, .int 1]) (rest := [.int x44]) ⟨hx, hb, hml, hown, hts⟩ hK hG hP hS (c_X10_termOf l g A L hD hF M p1 1 r46 e47) (cwV 2 hts gX10_claimOf_X10_termOf rfl rfl rfl (by decide +kernel) ⟨Nat.le_of_ble_eq_true rfl, Nat.le_of_ble_eq_true rfl⟩) (tm_recv hK hP (hF 127 (by decide)) (ci := 9) rfl (tm_mkX10 (by decide) _)) rfl hl.1 (lv_room (Nat.le_of_ble_eq_true rfl)) dX10_claimOf_66 ⟨Nat.zero_le _, Nat.zero_le _⟩) hS (fun H locs hP hS => ?_)
        refine lv_icmp_ge (tgt := 77) hx hb dX10_claimOf_69 (by decide) (fun c48 => ?_) (fun c48 => ?_)
        · rw [if_pos c48] at h
          refine lv_aload_n hx hb dX10_claimOf_77 rfl (lv_at hl 2 rfl) ?_
          refine lv_iload_n hx hb dX10_claimOf_78 rfl (lv_at hl 3 rfl) ?_
          refine lv_iconst (v := 1) hx hb dX10_claimOf_79 (by decide) ?_
          obtain ⟨r49, e50, h⟩ := tm_bd_some h
          refine tm_backI (r0 := r49) (M0 := M) (fun _ q => q) (tm_callV (As := [.int p1, .int 1]) (rest := []) ⟨hx, hb, hml, hown, hts⟩ hK hG hP hS (c_X10_termOf l g A L hD hF M p1 1 r49 e50) (cwV 2 hts gX10_claimOf_X10_termOf rfl rfl rfl (by decide +kernel) ⟨Nat.le_of_ble_eq_true rfl, Nat.le_of_ble_eq_true rfl⟩) (tm_recv hK hP (hF 127 (by decide)) (ci := 9) rfl (tm_mkX10 (by decide) _)) rfl hl.1 (lv_room (Nat.le_of_ble_eq_true rfl)) dX10_claimOf_80 ⟨Nat.zero_le _, Nat.zero_le _⟩) hS (fun H locs hP hS => ?_)
          refine lv_istore (lv' := [(5, .int r49), (4, .int x44), (3, .int 0), (0, .ref (g.2.2 + 127)), (1, .int p1), (2, .int p2)]) hx hb dX10_claimOf_83 hl (by decide) rfl (fun ls hl => ?_)
          refine lv_iload hx hb dX10_claimOf_85 (lv_at hl 0 rfl) ?_
          refine lv_aload_n hx hb dX10_claimOf_87 rfl (lv_at hl 3 rfl) ?_
          refine lv_iload_n hx hb dX10_claimOf_88 rfl (lv_at hl 4 rfl) ?_
          refine lv_iconst (v := 0) hx hb dX10_claimOf_89 (by decide) ?_
          obtain ⟨r51, e52, h⟩ := tm_bd_some h
          refine tm_backI (r0 := r51) (M0 := M) (fun _ q => q) (tm_callV (As := [.int p1, .int 0]) (rest := [.int r49]) ⟨hx, hb, hml, hown, hts⟩ hK hG hP hS (c_X10_termOf l g A L hD hF M p1 0 r51 e52) (cwV 2 hts gX10_claimOf_X10_termOf rfl rfl rfl (by decide +kernel) ⟨Nat.le_of_ble_eq_true rfl, Nat.le_of_ble_eq_true rfl⟩) (tm_recv hK hP (hF 127 (by decide)) (ci := 9) rfl (tm_mkX10 (by decide) _)) rfl hl.1 (lv_room (Nat.le_of_ble_eq_true rfl)) dX10_claimOf_90 ⟨Nat.zero_le _, Nat.zero_le _⟩) hS (fun H locs hP hS => ?_)
          refine lv_isub hx hb dX10_claimOf_93 ?_
          refine tm_nam h (fun x53 h => ?_)
          refine lv_istore (lv' := [(5, .int x53), (4, .int x44), (3, .int 0), (0, .ref (g.2.2 + 127)), (1, .int p1), (2, .int p2)]) hx hb dX10_claimOf_94 hl (by decide) rfl (fun ls hl => ?_)
          refine lv_iload_n hx hb dX10_claimOf_96 rfl (lv_at hl 2 rfl) ?_
          refine lv_if_ne (tgt := 105) hx hb dX10_claimOf_97 (by decide) (fun c54 => absurd (by decide) c54) (fun _ => ?_)
          refine lv_iload hx hb dX10_claimOf_100 (lv_at hl 0 rfl) ?_
          refine lv_if_ge (tgt := 109) hx hb dX10_claimOf_102 (by decide) (fun c55 => ?_) (fun c55 => ?_)
          · rw [if_pos c55] at h
            refine lv_iload hx hb dX10_claimOf_109 (lv_at hl 0 rfl) ?_
            exact tm_iret C0 (by rw [Option.some.inj h]) hP hS dX10_claimOf_111
          · rw [if_neg c55] at h
            refine lv_iconst (v := 0) hx hb dX10_claimOf_105 (by decide) ?_
            refine lv_goto (tgt := 111) hx hb dX10_claimOf_106 (by decide) ?_
            exact tm_iret C0 (by rw [Option.some.inj h]) hP hS dX10_claimOf_111
        · rw [if_neg c48] at h
          refine lv_iload hx hb dX10_claimOf_72 (lv_at hl 0 rfl) ?_
          refine lv_goto (tgt := 83) hx hb dX10_claimOf_74 (by decide) ?_
          refine lv_istore (lv' := [(5, .int x44), (4, .int x44), (3, .int 0), (0, .ref (g.2.2 + 127)), (1, .int p1), (2, .int p2)]) hx hb dX10_claimOf_83 hl (by decide) rfl (fun ls hl => ?_)
          refine lv_iload hx hb dX10_claimOf_85 (lv_at hl 0 rfl) ?_
          refine lv_aload_n hx hb dX10_claimOf_87 rfl (lv_at hl 3 rfl) ?_
          refine lv_iload_n hx hb dX10_claimOf_88 rfl (lv_at hl 4 rfl) ?_
          refine lv_iconst (v := 0) hx hb dX10_claimOf_89 (by decide) ?_
          obtain ⟨r56, e57, h⟩ := tm_bd_some h
          refine tm_backI (r0 := r56) (M0 := M) (fun _ q => q) (tm_callV (As := [.int p1, .int 0]) (rest := [.int x44]) ⟨hx, hb, hml, hown, hts⟩ hK hG hP hS (c_X10_termOf l g A L hD hF M p1 0 r56 e57) (cwV 2 hts gX10_claimOf_X10_termOf rfl rfl rfl (by decide +kernel) ⟨Nat.le_of_ble_eq_true rfl, Nat.le_of_ble_eq_true rfl⟩) (tm_recv hK hP (hF 127 (by decide)) (ci := 9) rfl (tm_mkX10 (by decide) _)) rfl hl.1 (lv_room (Nat.le_of_ble_eq_true rfl)) dX10_claimOf_90 ⟨Nat.zero_le _, Nat.zero_le _⟩) hS (fun H locs hP hS => ?_)
          refine lv_isub hx hb dX10_claimOf_93 ?_
          refine tm_nam h (fun x58 h => ?_)
          refine lv_istore (lv' := [(5, .int x58), (4, .int x44), (3, .int 0), (0, .ref (g.2.2 + 127)), (1, .int p1), (2, .int p2)]) hx hb dX10_claimOf_94 hl (by decide) rfl (fun ls hl => ?_)
          refine lv_iload_n hx hb dX10_claimOf_96 rfl (lv_at hl 2 rfl) ?_
          refine lv_if_ne (tgt := 105) hx hb dX10_claimOf_97 (by decide) (fun c59 => absurd (by decide) c59) (fun _ => ?_)
          refine lv_iload hx hb dX10_claimOf_100 (lv_at hl 0 rfl) ?_
          refine lv_if_ge (tgt := 109) hx hb dX10_claimOf_102 (by decide) (fun c60 => ?_) (fun c60 => ?_)
          · rw [if_pos c60] at h
            refine lv_iload hx hb dX10_claimOf_109 (lv_at hl 0 rfl) ?_
            exact tm_iret C0 (by rw [Option.some.inj h]) hP hS dX10_claimOf_111
          · rw [if_neg c60] at h
            refine lv_iconst (v := 0) hx hb dX10_claimOf_105 (by decide) ?_
            refine lv_goto (tgt := 111) hx hb dX10_claimOf_106 (by decide) ?_
            exact tm_iret C0 (by rw [Option.some.inj h]) hP hS dX10_claimOf_111
      · rw [if_neg c43] at h
        refine lv_iconst (v := 1) hx hb dX10_claimOf_42 (by decide) ?_
        refine lv_goto (tgt := 47) hx hb dX10_claimOf_43 (by decide) ?_
        refine lv_istore_n (lv' := [(3, .int 1), (0, .ref (g.2.2 + 127)), (1, .int p1), (2, .int p2)]) hx hb dX10_claimOf_47 rfl hl (by decide) rfl (fun ls hl => ?_)
        refine lv_aload_n hx hb dX10_claimOf_48 rfl (lv_at hl 1 rfl) ?_
        refine tm_get (C := RX10) (T := TX10) (N := 23) (v := .ref (g.2.2 + 132)) hx hb hts nX10_claimOf_X10 hown hK hP (hF 127 (by decide)) (tm_mkX10 (by decide) _) rfl 4 (by decide) (hts _ kX10_claimOf_0) rfl dX10_claimOf_49 ?_
        refine lv_iload_n hx hb dX10_claimOf_52 rfl (lv_at hl 2 rfl) ?_
        refine lv_bipush (v := 7) hx hb dX10_claimOf_53 (by decide) ?_
        refine lv_iadd hx hb dX10_claimOf_55 ?_
        refine lv_iload_n hx hb dX10_claimOf_56 rfl (lv_at hl 3 rfl) ?_
        refine lv_iadd hx hb dX10_claimOf_57 ?_
        obtain ⟨x61, e62, h⟩ := tm_bd_some h
        refine tm_iald hx hb hK hP (hF 132 (by decide)) (tm_mkI (n := 672) (by decide) (by decide)) e62 dX10_claimOf_58 ?_
        refine lv_istore (lv' := [(4, .int x61), (3, .int 1), (0, .ref (g.2.2 + 127)), (1, .int p1), (2, .int p2)]) hx hb dX10_claimOf_59 hl (by decide) rfl (fun ls hl => ?_)
        refine lv_iload hx hb dX10_claimOf_61 (lv_at hl 0 rfl) ?_
        refine lv_aload_n hx hb dX10_claimOf_63 rfl (lv_at hl 2 rfl) ?_
        refine lv_iload_n hx hb dX10_claimOf_64 rfl (lv_at hl 3 rfl) ?_
        refine lv_iconst (v := 1) hx hb dX10_claimOf_65 (by decide) ?_
        obtain ⟨r63, e64, h⟩ := tm_bd_some h
        refine tm_backI (r0 := r63) (M0 := M) (fun _ q => q) (tm_callV (As := [.int p1, .int 1]) (rest := [.int x61]) ⟨hx, hb, hml, hown, hts⟩ hK hG hP hS (c_X10_termOf l g A L hD hF M p1 1 r63 e64) (cwV 2 hts gX10_claimOf_X10_termOf rfl rfl rfl (by decide +kernel) ⟨Nat.le_of_ble_eq_true rfl, Nat.le_of_ble_eq_true rfl⟩) (tm_recv hK hP (hF 127 (by decide)) (ci := 9) rfl (tm_mkX10 (by decide) _)) rfl hl.1 (lv_room (Nat.le_of_ble_eq_true rfl)) dX10_claimOf_66 ⟨Nat.zero_le _, Nat.zero_le _⟩) hS (fun H locs hP hS => ?_)
        refine lv_icmp_ge (tgt := 77) hx hb dX10_claimOf_69 (by decide) (fun c65 => ?_) (fun c65 => ?_)
        · rw [if_pos c65] at h
          refine lv_aload_n hx hb dX10_claimOf_77 rfl (lv_at hl 2 rfl) ?_
          refine lv_iload_n hx hb dX10_claimOf_78 rfl (lv_at hl 3 rfl) ?_
          refine lv_iconst (v := 1) hx hb dX10_claimOf_79 (by decide) ?_
          obtain ⟨r66, e67, h⟩ := tm_bd_some h
          refine tm_backI (r0 := r66) (M0 := M) (fun _ q => q) (tm_callV (As := [.int p1, .int 1]) (rest := []) ⟨hx, hb, hml, hown, hts⟩ hK hG hP hS (c_X10_termOf l g A L hD hF M p1 1 r66 e67) (cwV 2 hts gX10_claimOf_X10_termOf rfl rfl rfl (by decide +kernel) ⟨Nat.le_of_ble_eq_true rfl, Nat.le_of_ble_eq_true rfl⟩) (tm_recv hK hP (hF 127 (by decide)) (ci := 9) rfl (tm_mkX10 (by decide) _)) rfl hl.1 (lv_room (Nat.le_of_ble_eq_true rfl)) dX10_claimOf_80 ⟨Nat.zero_le _, Nat.zero_le _⟩) hS (fun H locs hP hS => ?_)
          refine lv_istore (lv' := [(5, .int r66), (4, .int x61), (3, .int 1), (0, .ref (g.2.2 + 127)), (1, .int p1), (2, .int p2)]) hx hb dX10_claimOf_83 hl (by decide) rfl (fun ls hl => ?_)
          refine lv_iload hx hb dX10_claimOf_85 (lv_at hl 0 rfl) ?_
          refine lv_aload_n hx hb dX10_claimOf_87 rfl (lv_at hl 3 rfl) ?_
          refine lv_iload_n hx hb dX10_claimOf_88 rfl (lv_at hl 4 rfl) ?_
          refine lv_iconst (v := 0) hx hb dX10_claimOf_89 (by decide) ?_
          obtain ⟨r68, e69, h⟩ := tm_bd_some h
          refine tm_backI (r0 := r68) (M0 := M) (fun _ q => q) (tm_callV (As := [.int p1, .int 0]) (rest := [.int r66]) ⟨hx, hb, hml, hown, hts⟩ hK hG hP hS (c_X10_termOf l g A L hD hF M p1 0 r68 e69) (cwV 2 hts gX10_claimOf_X10_termOf rfl rfl rfl (by decide +kernel) ⟨Nat.le_of_ble_eq_true rfl, Nat.le_of_ble_eq_true rfl⟩) (tm_recv hK hP (hF 127 (by decide)) (ci := 9) rfl (tm_mkX10 (by decide) _)) rfl hl.1 (lv_room (Nat.le_of_ble_eq_true rfl)) dX10_claimOf_90 ⟨Nat.zero_le _, Nat.zero_le _⟩) hS (fun H locs hP hS => ?_)
          refine lv_isub hx hb dX10_claimOf_93 ?_
          refine tm_nam h (fun x70 h => ?_)
          refine lv_istore (lv' := [(5, .int x70), (4, .int x61), (3, .int 1), (0, .ref (g.2.2 + 127)), (1, .int p1), (2, .int p2)]) hx hb dX10_claimOf_94 hl (by decide) rfl (fun ls hl => ?_)
          refine lv_iload_n hx hb dX10_claimOf_96 rfl (lv_at hl 2 rfl) ?_
          refine lv_if_ne (tgt := 105) hx hb dX10_claimOf_97 (by decide) (fun _ => ?_) (fun c71 => absurd c71 (by decide))
          refine lv_iconst (v := 0) hx hb dX10_claimOf_105 (by decide) ?_
          refine lv_goto (tgt := 111) hx hb dX10_claimOf_106 (by decide) ?_
          exact tm_iret C0 (by rw [Option.some.inj h]) hP hS dX10_claimOf_111
        · rw [if_neg c65] at h
          refine lv_iload hx hb dX10_claimOf_72 (lv_at hl 0 rfl) ?_
          refine lv_goto (tgt := 83) hx hb dX10_claimOf_74 (by decide) ?_
          refine lv_istore (lv' := [(5, .int x61), (4, .int x61), (3, .int 1), (0, .ref (g.2.2 + 127)), (1, .int p1), (2, .int p2)]) hx hb dX10_claimOf_83 hl (by decide) rfl (fun ls hl => ?_)
          refine lv_iload hx hb dX10_claimOf_85 (lv_at hl 0 rfl) ?_
          refine lv_aload_n hx hb dX10_claimOf_87 rfl (lv_at hl 3 rfl) ?_
          refine lv_iload_n hx hb dX10_claimOf_88 rfl (lv_at hl 4 rfl) ?_
          refine lv_iconst (v := 0) hx hb dX10_claimOf_89 (by decide) ?_
          obtain ⟨r72, e73, h⟩ := tm_bd_some h
          refine tm_backI (r0 := r72) (M0 := M) (fun _ q => q) (tm_callV (As := [.int p1, .int 0]) (rest := [.int x61]) ⟨hx, hb, hml, hown, hts⟩ hK hG hP hS (c_X10_termOf l g A L hD hF M p1 0 r72 e73) (cwV 2 hts gX10_claimOf_X10_termOf rfl rfl rfl (by decide +kernel) ⟨Nat.le_of_ble_eq_true rfl, Nat.le_of_ble_eq_true rfl⟩) (tm_recv hK hP (hF 127 (by decide)) (ci := 9) rfl (tm_mkX10 (by decide) _)) rfl hl.1 (lv_room (Nat.le_of_ble_eq_true rfl)) dX10_claimOf_90 ⟨Nat.zero_le _, Nat.zero_le _⟩) hS (fun H locs hP hS => ?_)
          refine lv_isub hx hb dX10_claimOf_93 ?_
          refine tm_nam h (fun x74 h => ?_)
          refine lv_istore (lv' := [(5, .int x74), (4, .int x61), (3, .int 1), (0, .ref (g.2.2 + 127)), (1, .int p1), (2, .int p2)]) hx hb dX10_claimOf_94 hl (by decide) rfl (fun ls hl => ?_)
          refine lv_iload_n hx hb dX10_claimOf_96 rfl (lv_at hl 2 rfl) ?_
          refine lv_if_ne (tgt := 105) hx hb dX10_claimOf_97 (by decide) (fun _ => ?_) (fun c75 => absurd c75 (by decide))
          refine lv_iconst (v := 0) hx hb dX10_claimOf_105 (by decide) ?_
          refine lv_goto (tgt := 111) hx hb dX10_claimOf_106 (by decide) ?_
          exact tm_iret C0 (by rw [Option.some.inj h]) hP hS dX10_claimOf_111
/-! X10_breakUp -/
theorem nX10_breakUp_X10 : ∀ w ∈ wsX100, w ∈ wsX10_breakUp := by decide +kernel
theorem kX10_breakUp_0 : Cond.fieldLink RX10 22 "QuarrelDeskModel" "row" "[I" ∈ wsX10_breakUp := by decide +kernel
def f_X10_breakUp (M : tm_M) (p1 : Int32) (p2 : Int32) : Option tm_M :=
  (tm_rd M 132 672 ((p1 + 38) + p2)).bind fun x1 =>
  (f_X10_claimOf M p1 p2).bind fun r3 =>
  (tm_wr M 132 672 ((p1 + 38) + p2) (x1 + r3)).bind fun M5 =>
  (tm_rd M5 132 672 ((p1 + 20) + p2)).bind fun x7 =>
  (tm_wr M5 132 672 ((p1 + 20) + p2) (x7 + 1)).bind fun M9 =>
  (tm_rd M9 132 672 (p1 + 0)).bind fun x11 =>
  (tm_wr M9 132 672 ((p1 + 44) + p2) x11).bind fun M13 =>
  (tm_wr M13 132 672 ((p1 + 7) + p2) 0).bind fun M15 =>
  (tm_wr M15 132 672 ((p1 + 13) + p2) 0).bind fun M17 =>
  some M17
set_option maxHeartbeats 4000000 in
set_option maxRecDepth 100000 in
theorem c_X10_breakUp (l : Launch) (g : tm_G) (A : Nat → Prop) (L : List Nat) (hD : ∀ M, va_D A (tm_ws g L M)) (hF : ∀ o, tm_all o → o ∈ L) (M : tm_M) (p1 : Int32) (p2 : Int32) (M0 : tm_M) (h : f_X10_breakUp M p1 p2 = some M0) : Met l yX10_breakUp wsX10_breakUp { frames := 2, cells := 0, slots := 0, locals := 47 } (tm_PC g A L M [.ref (g.2.2 + 127), .int p1, .int p2]) (tm_QV g A L M0) 0 0 A := by
  refine tm_start (cc := cX10_breakUp) (nL := 3) (ret := none) (F := tm_all) (plainFor_of_name (by decide)) rfl (Nat.le_of_ble_eq_true rfl) hD hF (fun p e s m args below meth c ls C0 hP hS hl => ?_)
  have hl : lv_has ls 3 [(0, .ref (g.2.2 + 127)), (1, .int p1), (2, .int p2)] := hl
  have C0 : tm_C p m c cX10_breakUp 3 s args wsX10_breakUp RX10 meth none g A L tm_all := C0
  obtain ⟨⟨hx, hb, hml, hown, hts⟩, hr, hlk, hK, hD, hG, hF⟩ := id C0
  unfold f_X10_breakUp at h
  refine lv_aload_n hx hb dX10_breakUp_0 rfl (lv_at hl 0 rfl) ?_
  refine tm_get (C := RX10) (T := TX10) (N := 23) (v := .ref (g.2.2 + 132)) hx hb hts nX10_breakUp_X10 hown hK hP (hF 127 (by decide)) (tm_mkX10 (by decide) _) rfl 4 (by decide) (hts _ kX10_breakUp_0) rfl dX10_breakUp_1 ?_
  refine lv_iload_n hx hb dX10_breakUp_4 rfl (lv_at hl 1 rfl) ?_
  refine lv_bipush (v := 38) hx hb dX10_breakUp_5 (by decide) ?_
  refine lv_iadd hx hb dX10_breakUp_7 ?_
  refine lv_iload_n hx hb dX10_breakUp_8 rfl (lv_at hl 2 rfl) ?_
  refine lv_iadd hx hb dX10_breakUp_9 ?_
  refine lv_dup2_11 hx hb dX10_breakUp_10 rfl rfl ?_
  obtain ⟨x1, e2, h⟩ := tm_bd_some h
  refine tm_iald hx hb hK hP (hF 132 (by decide)) (tm_mkI (n := 672) (by decide) (by decide)) e2 dX10_breakUp_11 ?_
  refine lv_aload_n hx hb dX10_breakUp_12 rfl (lv_at hl 0 rfl) ?_
  refine lv_iload_n hx hb dX10_breakUp_13 rfl (lv_at hl 1 rfl) ?_
  refine lv_iload_n hx hb dX10_breakUp_14 rfl (lv_at hl 2 rfl) ?_
  obtain ⟨r3, e4, h⟩ := tm_bd_some h
  refine tm_backI (r0 := r3) (M0 := M) (fun _ q => q) (tm_callV (As := [.int p1, .int p2]) (rest := [.int x1, .int ((p1 + 38) + p2), .ref (g.2.2 + 132)]) ⟨hx, hb, hml, hown, hts⟩ hK hG hP hS (c_X10_claimOf l g A L hD hF M p1 p2 r3 e4) (cwV 2 hts gX10_breakUp_X10_claimOf rfl rfl rfl (by decide +kernel) ⟨Nat.le_of_ble_eq_true rfl, Nat.le_of_ble_eq_true rfl⟩) (tm_recv hK hP (hF 127 (by decide)) (ci := 9) rfl (tm_mkX10 (by decide) _)) rfl hl.1 (lv_room (Nat.le_of_ble_eq_true rfl)) dX10_breakUp_15 ⟨Nat.zero_le _, Nat.zero_le _⟩) hS (fun H locs hP hS => ?_)
  refine lv_iadd hx hb dX10_breakUp_18 ?_
  obtain ⟨M5, e6, h⟩ := tm_bd_some h
  refine tm_iast hx hb hK hP hD hS (hF 132 (by decide)) (tm_mkI (n := 672) (by decide) (by decide)) e6 dX10_breakUp_19 (fun H locs hP hS => ?_)
  refine lv_aload_n hx hb dX10_breakUp_20 rfl (lv_at hl 0 rfl) ?_
  refine tm_get (C := RX10) (T := TX10) (N := 23) (v := .ref (g.2.2 + 132)) hx hb hts nX10_breakUp_X10 hown hK hP (hF 127 (by decide)) (tm_mkX10 (by decide) _) rfl 4 (by decide) (hts _ kX10_breakUp_0) rfl dX10_breakUp_21 ?_
  refine lv_iload_n hx hb dX10_breakUp_24 rfl (lv_at hl 1 rfl) ?_
  refine lv_bipush (v := 20) hx hb dX10_breakUp_25 (by decide) ?_
  refine lv_iadd hx hb dX10_breakUp_27 ?_
  refine lv_iload_n hx hb dX10_breakUp_28 rfl (lv_at hl 2 rfl) ?_
  refine lv_iadd hx hb dX10_breakUp_29 ?_
  refine lv_dup2_11 hx hb dX10_breakUp_30 rfl rfl ?_
  obtain ⟨x7, e8, h⟩ := tm_bd_some h
  refine tm_iald hx hb hK hP (hF 132 (by decide)) (tm_mkI (n := 672) (by decide) (by decide)) e8 dX10_breakUp_31 ?_
  refine lv_iconst (v := 1) hx hb dX10_breakUp_32 (by decide) ?_
  refine lv_iadd hx hb dX10_breakUp_33 ?_
  obtain ⟨M9, e10, h⟩ := tm_bd_some h
  refine tm_iast hx hb hK hP hD hS (hF 132 (by decide)) (tm_mkI (n := 672) (by decide) (by decide)) e10 dX10_breakUp_34 (fun H locs hP hS => ?_)
  refine lv_aload_n hx hb dX10_breakUp_35 rfl (lv_at hl 0 rfl) ?_
  refine tm_get (C := RX10) (T := TX10) (N := 23) (v := .ref (g.2.2 + 132)) hx hb hts nX10_breakUp_X10 hown hK hP (hF 127 (by decide)) (tm_mkX10 (by decide) _) rfl 4 (by decide) (hts _ kX10_breakUp_0) rfl dX10_breakUp_36 ?_
  refine lv_iload_n hx hb dX10_breakUp_39 rfl (lv_at hl 1 rfl) ?_
  refine lv_bipush (v := 44) hx hb dX10_breakUp_40 (by decide) ?_
  refine lv_iadd hx hb dX10_breakUp_42 ?_
  refine lv_iload_n hx hb dX10_breakUp_43 rfl (lv_at hl 2 rfl) ?_
  refine lv_iadd hx hb dX10_breakUp_44 ?_
  refine lv_aload_n hx hb dX10_breakUp_45 rfl (lv_at hl 0 rfl) ?_
  refine tm_get (C := RX10) (T := TX10) (N := 23) (v := .ref (g.2.2 + 132)) hx hb hts nX10_breakUp_X10 hown hK hP (hF 127 (by decide)) (tm_mkX10 (by decide) _) rfl 4 (by decide) (hts _ kX10_breakUp_0) rfl dX10_breakUp_46 ?_
  refine lv_iload_n hx hb dX10_breakUp_49 rfl (lv_at hl 1 rfl) ?_
  refine lv_iconst (v := 0) hx hb dX10_breakUp_50 (by decide) ?_
  refine lv_iadd hx hb dX10_breakUp_51 ?_
  obtain ⟨x11, e12, h⟩ := tm_bd_some h
  refine tm_iald hx hb hK hP (hF 132 (by decide)) (tm_mkI (n := 672) (by decide) (by decide)) e12 dX10_breakUp_52 ?_
  obtain ⟨M13, e14, h⟩ := tm_bd_some h
  refine tm_iast hx hb hK hP hD hS (hF 132 (by decide)) (tm_mkI (n := 672) (by decide) (by decide)) e14 dX10_breakUp_53 (fun H locs hP hS => ?_)
  refine lv_aload_n hx hb dX10_breakUp_54 rfl (lv_at hl 0 rfl) ?_
  refine tm_get (C := RX10) (T := TX10) (N := 23) (v := .ref (g.2.2 + 132)) hx hb hts nX10_breakUp_X10 hown hK hP (hF 127 (by decide)) (tm_mkX10 (by decide) _) rfl 4 (by decide) (hts _ kX10_breakUp_0) rfl dX10_breakUp_55 ?_
  refine lv_iload_n hx hb dX10_breakUp_58 rfl (lv_at hl 1 rfl) ?_
  refine lv_bipush (v := 7) hx hb dX10_breakUp_59 (by decide) ?_
  refine lv_iadd hx hb dX10_breakUp_61 ?_
  refine lv_iload_n hx hb dX10_breakUp_62 rfl (lv_at hl 2 rfl) ?_
  refine lv_iadd hx hb dX10_breakUp_63 ?_
  refine lv_iconst (v := 0) hx hb dX10_breakUp_64 (by decide) ?_
  obtain ⟨M15, e16, h⟩ := tm_bd_some h
  refine tm_iast hx hb hK hP hD hS (hF 132 (by decide)) (tm_mkI (n := 672) (by decide) (by decide)) e16 dX10_breakUp_65 (fun H locs hP hS => ?_)
  refine lv_aload_n hx hb dX10_breakUp_66 rfl (lv_at hl 0 rfl) ?_
  refine tm_get (C := RX10) (T := TX10) (N := 23) (v := .ref (g.2.2 + 132)) hx hb hts nX10_breakUp_X10 hown hK hP (hF 127 (by decide)) (tm_mkX10 (by decide) _) rfl 4 (by decide) (hts _ kX10_breakUp_0) rfl dX10_breakUp_67 ?_
  refine lv_iload_n hx hb dX10_breakUp_70 rfl (lv_at hl 1 rfl) ?_
  refine lv_bipush (v := 13) hx hb dX10_breakUp_71 (by decide) ?_
  refine lv_iadd hx hb dX10_breakUp_73 ?_
  refine lv_iload_n hx hb dX10_breakUp_74 rfl (lv_at hl 2 rfl) ?_
  refine lv_iadd hx hb dX10_breakUp_75 ?_
  refine lv_iconst (v := 0) hx hb dX10_breakUp_76 (by decide) ?_
  obtain ⟨M17, e18, h⟩ := tm_bd_some h
  refine tm_iast hx hb hK hP hD hS (hF 132 (by decide)) (tm_mkI (n := 672) (by decide) (by decide)) e18 dX10_breakUp_77 (fun H locs hP hS => ?_)
  exact tm_vret C0 (Option.some.inj h) hP hS dX10_breakUp_78
/-! X10_quarrel -/
theorem nX10_quarrel_X10 : ∀ w ∈ wsX100, w ∈ wsX10_quarrel := by decide +kernel
theorem kX10_quarrel_0 : Cond.fieldLink RX10 29 "QuarrelDeskModel" "kinds" "[I" ∈ wsX10_quarrel := by decide +kernel
theorem kX10_quarrel_1 : Cond.fieldLink RX10 22 "QuarrelDeskModel" "row" "[I" ∈ wsX10_quarrel := by decide +kernel
def f_X10_quarrel (M : tm_M) (p1 : Int32) (p2 : Int32) : Option tm_M :=
  (tm_rd M 134 6 p2).bind fun x1 =>
  if x1 = 3 then
    (tm_rd M 132 672 ((p1 + 13) + p2)).bind fun x103 =>
    (tm_wr M 132 672 ((p1 + 13) + p2) (x103 + 1)).bind fun M105 =>
    (tm_rd M105 132 672 (p1 + 19)).bind fun x107 =>
    (tm_rd M105 132 672 ((p1 + 13) + p2)).bind fun x109 =>
    if x109 = 3 then
      (tm_wr M105 132 672 (p1 + 19) (x107 ||| (1 <<< (p2 &&& 31)))).bind fun M114 =>
      some M114
    else
      (tm_wr M105 132 672 (p1 + 19) (x107 ||| 0)).bind fun M112 =>
      some M112
  else
    (tm_rd M 132 672 ((p1 + 44) + p2)).bind fun x4 =>
    (tm_rd M 132 672 (p1 + 0)).bind fun x6 =>
    if x4 = (-1) then
      if x6 < 10 then
        (tm_rd M 132 672 ((p1 + 32) + p2)).bind fun x57 =>
        (f_X10_termOf M p1 2).bind fun r60 =>
        (tm_wr M 132 672 ((p1 + 32) + p2) (x57 + r60)).bind fun M62 =>
        (tm_rd M62 132 672 ((p1 + 26) + p2)).bind fun x64 =>
        (tm_wr M62 132 672 ((p1 + 26) + p2) (x64 + 1)).bind fun M66 =>
        (tm_wr M66 132 672 ((p1 + 50) + p2) x6).bind fun M68 =>
        (tm_rd M68 132 672 ((p1 + 7) + p2)).bind fun x70 =>
        (f_X10_termOf M68 p1 5).bind fun r72 =>
        (some (x70 - r72)).bind fun x74 =>
        if 0 ≤ x74 then
          (tm_wr M68 132 672 ((p1 + 7) + p2) x74).bind fun M76 =>
          some M76
        else
          (tm_wr M68 132 672 ((p1 + 7) + p2) 0).bind fun M78 =>
          some M78
      else
        (tm_rd M 132 672 ((p1 + 32) + p2)).bind fun x80 =>
        (f_X10_termOf M p1 2).bind fun r83 =>
        (tm_wr M 132 672 ((p1 + 32) + p2) (x80 + (r83 / 2))).bind fun M85 =>
        (tm_rd M85 132 672 ((p1 + 26) + p2)).bind fun x87 =>
        (tm_wr M85 132 672 ((p1 + 26) + p2) (x87 + 1)).bind fun M89 =>
        (tm_wr M89 132 672 ((p1 + 50) + p2) x6).bind fun M91 =>
        (tm_rd M91 132 672 ((p1 + 7) + p2)).bind fun x93 =>
        (f_X10_termOf M91 p1 5).bind fun r95 =>
        (some (x93 - r95)).bind fun x97 =>
        if 0 ≤ x97 then
          (tm_wr M91 132 672 ((p1 + 7) + p2) x97).bind fun M99 =>
          some M99
        else
          (tm_wr M91 132 672 ((p1 + 7) + p2) 0).bind fun M101 =>
          some M101
    else
      if (x6 - x4) < 10 then
        (tm_rd M 132 672 ((p1 + 32) + p2)).bind fun x10 =>
        (f_X10_termOf M p1 2).bind fun r13 =>
        (tm_wr M 132 672 ((p1 + 32) + p2) (x10 + r13)).bind fun M15 =>
        (tm_rd M15 132 672 ((p1 + 26) + p2)).bind fun x17 =>
        (tm_wr M15 132 672 ((p1 + 26) + p2) (x17 + 1)).bind fun M19 =>
        (tm_wr M19 132 672 ((p1 + 50) + p2) x6).bind fun M21 =>
        (tm_rd M21 132 672 ((p1 + 7) + p2)).bind fun x23 =>
        (f_X10_termOf M21 p1 5).bind fun r25 =>
        (some (x23 - r25)).bind fun x27 =>
        if 0 ≤ x27 then
          (tm_wr M21 132 672 ((p1 + 7) + p2) x27).bind fun M29 =>
          some M29
        else
          (tm_wr M21 132 672 ((p1 + 7) + p2) 0).bind fun M31 =>
          some M31
      else
        (tm_rd M 132 672 ((p1 + 32) + p2)).bind fun x33 =>
        (f_X10_termOf M p1 2).bind fun r36 =>
        (tm_wr M 132 672 ((p1 + 32) + p2) (x33 + (r36 / 2))).bind fun M38 =>
        (tm_rd M38 132 672 ((p1 + 26) + p2)).bind fun x40 =>
        (tm_wr M38 132 672 ((p1 + 26) + p2) (x40 + 1)).bind fun M42 =>
        (tm_wr M42 132 672 ((p1 + 50) + p2) x6).bind fun M44 =>
        (tm_rd M44 132 672 ((p1 + 7) + p2)).bind fun x46 =>
        (f_X10_termOf M44 p1 5).bind fun r48 =>
        (some (x46 - r48)).bind fun x50 =>
        if 0 ≤ x50 then
          (tm_wr M44 132 672 ((p1 + 7) + p2) x50).bind fun M52 =>
          some M52
        else
          (tm_wr M44 132 672 ((p1 + 7) + p2) 0).bind fun M54 =>
          some M54
set_option maxHeartbeats 4000000 in
set_option maxRecDepth 100000 in
theorem c_X10_quarrel (l : Launch) (g : tm_G) (A : Nat → Prop) (L : List Nat) (hD : ∀ M, va_D A (tm_ws g L M)) (hF : ∀ o, tm_all o → o ∈ L) (M : tm_M) (p1 : Int32) (p2 : Int32) (M0 : tm_M) (h : f_X10_quarrel M p1 p2 = some M0) : Met l yX10_quarrel wsX10_quarrel { frames := 1, cells := 0, slots := 0, locals := 22 } (tm_PC g A L M [.ref (g.2.2 + 127), .int p1, .int p2]) (tm_QV g A L M0) 0 0 A := by
  refine tm_start (cc := cX10_quarrel) (nL := 7) (ret := none) (F := tm_all) (plainFor_of_name (by decide)) rfl (Nat.le_of_ble_eq_true rfl) hD hF (fun p e s m args below meth c ls C0 hP hS hl => ?_)
  have hl : lv_has ls 7 [(0, .ref (g.2.2 + 127)), (1, .int p1), (2, .int p2)] := hl
  have C0 : tm_C p m c cX10_quarrel 7 s args wsX10_quarrel RX10 meth none g A L tm_all := C0
  obtain ⟨⟨hx, hb, hml, hown, hts⟩, hr, hlk, hK, hD, hG, hF⟩ := id C0
  unfold f_X10_quarrel at h
  refine lv_aload_n hx hb dX10_quarrel_0 rfl (lv_at hl 0 rfl) ?_
  refine tm_get (C := RX10) (T := TX10) (N := 23) (v := .ref (g.2.2 + 134)) hx hb hts nX10_quarrel_X10 hown hK hP (hF 127 (by decide)) (tm_mkX10 (by decide) _) rfl 8 (by decide) (hts _ kX10_quarrel_0) rfl dX10_quarrel_1 ?_
  refine lv_iload_n hx hb dX10_quarrel_4 rfl (lv_at hl 2 rfl) ?_
  obtain ⟨x1, e2, h⟩ := tm_bd_some h
  refine tm_iald hx hb hK hP (hF 134 (by decide)) (tm_mkI (n := 6) (by decide) (by decide)) e2 dX10_quarrel_5 ?_
  refine lv_iconst (v := 3) hx hb dX10_quarrel_6 (by decide) ?_
  refine lv_icmp_ne (tgt := 60) hx hb dX10_quarrel_7 (by decide) (fun c3 => ?_) (fun c3 => ?_)
  · rw [if_neg c3] at h
    refine lv_aload_n hx hb dX10_quarrel_60 rfl (lv_at hl 0 rfl) ?_
    refine tm_get (C := RX10) (T := TX10) (N := 23) (v := .ref (g.2.2 + 132)) hx hb hts nX10_quarrel_X10 hown hK hP (hF 127 (by decide)) (tm_mkX10 (by decide) _) rfl 4 (by decide) (hts _ kX10_quarrel_1) rfl dX10_quarrel_61 ?_
    refine lv_iload_n hx hb dX10_quarrel_64 rfl (lv_at hl 1 rfl) ?_
    refine lv_bipush (v := 44) hx hb dX10_quarrel_65 (by decide) ?_
    refine lv_iadd hx hb dX10_quarrel_67 ?_
    refine lv_iload_n hx hb dX10_quarrel_68 rfl (lv_at hl 2 rfl) ?_
    refine lv_iadd hx hb dX10_quarrel_69 ?_
    obtain ⟨x4, e5, h⟩ := tm_bd_some h
    refine tm_iald hx hb hK hP (hF 132 (by decide)) (tm_mkI (n := 672) (by decide) (by decide)) e5 dX10_quarrel_70 ?_
    refine lv_istore_n (lv' := [(3, .int x4), (0, .ref (g.2.2 + 127)), (1, .int p1), (2, .int p2)]) hx hb dX10_quarrel_71 rfl hl (by decide) rfl (fun ls hl => ?_)
    refine lv_aload_n hx hb dX10_quarrel_72 rfl (lv_at hl 1 rfl) ?_
    refine tm_get (C := RX10) (T := TX10) (N := 23) (v := .ref (g.2.2 + 132)) hx hb hts nX10_quarrel_X10 hown hK hP (hF 127 (by decide)) (tm_mkX10 (by decide) _) rfl 4 (by decide) (hts _ kX10_quarrel_1) rfl dX10_quarrel_73 ?_
    refine lv_iload_n hx hb dX10_quarrel_76 rfl (lv_at hl 2 rfl) ?_
    refine lv_iconst (v := 0) hx hb dX10_quarrel_77 (by decide) ?_
    refine lv_iadd hx hb dX10_quarrel_78 ?_
    obtain ⟨x6, e7, h⟩ := tm_bd_some h
    refine tm_iald hx hb hK hP (hF 132 (by decide)) (tm_mkI (n := 672) (by decide) (by decide)) e7 dX10_quarrel_79 ?_
    refine lv_istore (lv' := [(4, .int x6), (3, .int x4), (0, .ref (g.2.2 + 127)), (1, .int p1), (2, .int p2)]) hx hb dX10_quarrel_80 hl (by decide) rfl (fun ls hl => ?_)
    refine lv_iload_n hx hb dX10_quarrel_82 rfl (lv_at hl 1 rfl) ?_
    refine lv_iconst (v := (-1)) hx hb dX10_quarrel_83 (by decide) ?_
    refine lv_icmp_ne (tgt := 102) hx hb dX10_quarrel_84 (by decide) (fun c8 => ?_) (fun c8 => ?_)
    · rw [if_neg c8] at h
      refine lv_iload hx hb dX10_quarrel_102 (lv_at hl 0 rfl) ?_
      refine lv_iload_n hx hb dX10_quarrel_104 rfl (lv_at hl 1 rfl) ?_
      refine lv_isub hx hb dX10_quarrel_105 ?_
      refine lv_bipush (v := 10) hx hb dX10_quarrel_106 (by decide) ?_
      refine lv_icmp_lt (tgt := 115) hx hb dX10_quarrel_108 (by decide) (fun c9 => ?_) (fun c9 => ?_)
      · rw [if_pos c9] at h
        refine lv_iconst (v := 0) hx hb dX10_quarrel_115 (by decide) ?_
        refine lv_istore (lv' := [(5, .int 0), (4, .int x6), (3, .int x4), (0, .ref (g.2.2 + 127)), (1, .int p1), (2, .int p2)]) hx hb dX10_quarrel_116 hl (by decide) rfl (fun ls hl => ?_)
        refine lv_aload_n hx hb dX10_quarrel_118 rfl (lv_at hl 3 rfl) ?_
        refine tm_get (C := RX10) (T := TX10) (N := 23) (v := .ref (g.2.2 + 132)) hx hb hts nX10_quarrel_X10 hown hK hP (hF 127 (by decide)) (tm_mkX10 (by decide) _) rfl 4 (by decide) (hts _ kX10_quarrel_1) rfl dX10_quarrel_119 ?_
        refine lv_iload_n hx hb dX10_quarrel_122 rfl (lv_at hl 4 rfl) ?_
        refine lv_bipush (v := 32) hx hb dX10_quarrel_123 (by decide) ?_
        refine lv_iadd hx hb dX10_quarrel_125 ?_
        refine lv_iload_n hx hb dX10_quarrel_126 rfl (lv_at hl 5 rfl) ?_
        refine lv_iadd hx hb dX10_quarrel_127 ?_
        refine lv_dup2_11 hx hb dX10_quarrel_128 rfl rfl ?_
        obtain ⟨x10, e11, h⟩ := tm_bd_some h
        refine tm_iald hx hb hK hP (hF 132 (by decide)) (tm_mkI (n := 672) (by decide) (by decide)) e11 dX10_quarrel_129 ?_
        refine lv_iload hx hb dX10_quarrel_130 (lv_at hl 0 rfl) ?_
        refine lv_if_eq (tgt := 146) hx hb dX10_quarrel_132 (by decide) (fun _ => ?_) (fun c12 => absurd (by decide) c12)
        refine lv_aload_n hx hb dX10_quarrel_146 rfl (lv_at hl 3 rfl) ?_
        refine lv_iload_n hx hb dX10_quarrel_147 rfl (lv_at hl 4 rfl) ?_
        refine lv_iconst (v := 2) hx hb dX10_quarrel_148 (by decide) ?_
        obtain ⟨r13, e14, h⟩ := tm_bd_some h
        refine tm_backI (r0 := r13) (M0 := M) (fun _ q => q) (tm_callV (As := [.int p1, .int 2]) (rest := [.int x10, .int ((p1 + 32) + p2), .ref (g.2.2 + 132)]) ⟨hx, hb, hml, hown, hts⟩ hK hG hP hS (c_X10_termOf l g A L hD hF M p1 2 r13 e14) (cwV 2 hts gX10_quarrel_X10_termOf rfl rfl rfl (by decide +kernel) ⟨Nat.le_of_ble_eq_true rfl, Nat.le_of_ble_eq_true rfl⟩) (tm_recv hK hP (hF 127 (by decide)) (ci := 9) rfl (tm_mkX10 (by decide) _)) rfl hl.1 (lv_room (Nat.le_of_ble_eq_true rfl)) dX10_quarrel_149 ⟨Nat.zero_le _, Nat.zero_le _⟩) hS (fun H locs hP hS => ?_)
        refine lv_iadd hx hb dX10_quarrel_152 ?_
        obtain ⟨M15, e16, h⟩ := tm_bd_some h
        refine tm_iast hx hb hK hP hD hS (hF 132 (by decide)) (tm_mkI (n := 672) (by decide) (by decide)) e16 dX10_quarrel_153 (fun H locs hP hS => ?_)
        refine lv_aload_n hx hb dX10_quarrel_154 rfl (lv_at hl 3 rfl) ?_
        refine tm_get (C := RX10) (T := TX10) (N := 23) (v := .ref (g.2.2 + 132)) hx hb hts nX10_quarrel_X10 hown hK hP (hF 127 (by decide)) (tm_mkX10 (by decide) _) rfl 4 (by decide) (hts _ kX10_quarrel_1) rfl dX10_quarrel_155 ?_
        refine lv_iload_n hx hb dX10_quarrel_158 rfl (lv_at hl 4 rfl) ?_
        refine lv_bipush (v := 26) hx hb dX10_quarrel_159 (by decide) ?_
        refine lv_iadd hx hb dX10_quarrel_161 ?_
        refine lv_iload_n hx hb dX10_quarrel_162 rfl (lv_at hl 5 rfl) ?_
        refine lv_iadd hx hb dX10_quarrel_163 ?_
        refine lv_dup2_11 hx hb dX10_quarrel_164 rfl rfl ?_
        obtain ⟨x17, e18, h⟩ := tm_bd_some h
        refine tm_iald hx hb hK hP (hF 132 (by decide)) (tm_mkI (n := 672) (by decide) (by decide)) e18 dX10_quarrel_165 ?_
        refine lv_iconst (v := 1) hx hb dX10_quarrel_166 (by decide) ?_
        refine lv_iadd hx hb dX10_quarrel_167 ?_
        obtain ⟨M19, e20, h⟩ := tm_bd_some h
        refine tm_iast hx hb hK hP hD hS (hF 132 (by decide)) (tm_mkI (n := 672) (by decide) (by decide)) e20 dX10_quarrel_168 (fun H locs hP hS => ?_)
        refine lv_aload_n hx hb dX10_quarrel_169 rfl (lv_at hl 3 rfl) ?_
        refine tm_get (C := RX10) (T := TX10) (N := 23) (v := .ref (g.2.2 + 132)) hx hb hts nX10_quarrel_X10 hown hK hP (hF 127 (by decide)) (tm_mkX10 (by decide) _) rfl 4 (by decide) (hts _ kX10_quarrel_1) rfl dX10_quarrel_170 ?_
        refine lv_iload_n hx hb dX10_quarrel_173 rfl (lv_at hl 4 rfl) ?_
        refine lv_bipush (v := 50) hx hb dX10_quarrel_174 (by decide) ?_
        refine lv_iadd hx hb dX10_quarrel_176 ?_
        refine lv_iload_n hx hb dX10_quarrel_177 rfl (lv_at hl 5 rfl) ?_
        refine lv_iadd hx hb dX10_quarrel_178 ?_
        refine lv_iload hx hb dX10_quarrel_179 (lv_at hl 1 rfl) ?_
        obtain ⟨M21, e22, h⟩ := tm_bd_some h
        refine tm_iast hx hb hK hP hD hS (hF 132 (by decide)) (tm_mkI (n := 672) (by decide) (by decide)) e22 dX10_quarrel_181 (fun H locs hP hS => ?_)
        refine lv_aload_n hx hb dX10_quarrel_182 rfl (lv_at hl 3 rfl) ?_
        refine tm_get (C := RX10) (T := TX10) (N := 23) (v := .ref (g.2.2 + 132)) hx hb hts nX10_quarrel_X10 hown hK hP (hF 127 (by decide)) (tm_mkX10 (by decide) _) rfl 4 (by decide) (hts _ kX10_quarrel_1) rfl dX10_quarrel_183 ?_
        refine lv_iload_n hx hb dX10_quarrel_186 rfl (lv_at hl 4 rfl) ?_
        refine lv_bipush (v := 7) hx hb dX10_quarrel_187 (by decide) ?_
        refine lv_iadd hx hb dX10_quarrel_189 ?_
        refine lv_iload_n hx hb dX10_quarrel_190 rfl (lv_at hl 5 rfl) ?_
        refine lv_iadd hx hb dX10_quarrel_191 ?_
        obtain ⟨x23, e24, h⟩ := tm_bd_some h
        refine tm_iald hx hb hK hP (hF 132 (by decide)) (tm_mkI (n := 672) (by decide) (by decide)) e24 dX10_quarrel_192 ?_
        refine lv_aload_n hx hb dX10_quarrel_193 rfl (lv_at hl 3 rfl) ?_
        refine lv_iload_n hx hb dX10_quarrel_194 rfl (lv_at hl 4 rfl) ?_
        refine lv_iconst (v := 5) hx hb dX10_quarrel_195 (by decide) ?_
        obtain ⟨r25, e26, h⟩ := tm_bd_some h
        refine tm_backI (r0 := r25) (M0 := M21) (fun _ q => q) (tm_callV (As := [.int p1, .int 5]) (rest := [.int x23]) ⟨hx, hb, hml, hown, hts⟩ hK hG hP hS (c_X10_termOf l g A L hD hF M21 p1 5 r25 e26) (cwV 2 hts gX10_quarrel_X10_termOf rfl rfl rfl (by decide +kernel) ⟨Nat.le_of_ble_eq_true rfl, Nat.le_of_ble_eq_true rfl⟩) (tm_recv hK hP (hF 127 (by decide)) (ci := 9) rfl (tm_mkX10 (by decide) _)) rfl hl.1 (lv_room (Nat.le_of_ble_eq_true rfl)) dX10_quarrel_196 ⟨Nat.zero_le _, Nat.zero_le _⟩) hS (fun H locs hP hS => ?_)
        refine lv_isub hx hb dX10_quarrel_199 ?_
        refine tm_nam h (fun x27 h => ?_)
        refine lv_istore (lv' := [(6, .int x27), (5, .int 0), (4, .int x6), (3, .int x4), (0, .ref (g.2.2 + 127)), (1, .int p1), (2, .int p2)]) hx hb dX10_quarrel_200 hl (by decide) rfl (fun ls hl => ?_)
        refine lv_aload_n hx hb dX10_quarrel_202 rfl (lv_at hl 4 rfl) ?_
        refine tm_get (C := RX10) (T := TX10) (N := 23) (v := .ref (g.2.2 + 132)) hx hb hts nX10_quarrel_X10 hown hK hP (hF 127 (by decide)) (tm_mkX10 (by decide) _) rfl 4 (by decide) (hts _ kX10_quarrel_1) rfl dX10_quarrel_203 ?_
        refine lv_iload_n hx hb dX10_quarrel_206 rfl (lv_at hl 5 rfl) ?_
        refine lv_bipush (v := 7) hx hb dX10_quarrel_207 (by decide) ?_
        refine lv_iadd hx hb dX10_quarrel_209 ?_
        refine lv_iload_n hx hb dX10_quarrel_210 rfl (lv_at hl 6 rfl) ?_
        refine lv_iadd hx hb dX10_quarrel_211 ?_
        refine lv_iload hx hb dX10_quarrel_212 (lv_at hl 0 rfl) ?_
        refine lv_if_ge (tgt := 221) hx hb dX10_quarrel_214 (by decide) (fun c28 => ?_) (fun c28 => ?_)
        · rw [if_pos c28] at h
          refine lv_iload hx hb dX10_quarrel_221 (lv_at hl 0 rfl) ?_
          obtain ⟨M29, e30, h⟩ := tm_bd_some h
          refine tm_iast hx hb hK hP hD hS (hF 132 (by decide)) (tm_mkI (n := 672) (by decide) (by decide)) e30 dX10_quarrel_223 (fun H locs hP hS => ?_)
          exact tm_vret C0 (Option.some.inj h) hP hS dX10_quarrel_224
        · rw [if_neg c28] at h
          refine lv_iconst (v := 0) hx hb dX10_quarrel_217 (by decide) ?_
          refine lv_goto (tgt := 223) hx hb dX10_quarrel_218 (by decide) ?_
          obtain ⟨M31, e32, h⟩ := tm_bd_some h
          refine tm_iast hx hb hK hP hD hS (hF 132 (by decide)) (tm_mkI (n := 672) (by decide) (by decide)) e32 dX10_quarrel_223 (fun H locs hP hS => ?_)
          exact tm_vret C0 (Option.some.inj h) hP hS dX10_quarrel_224
      · rw [if_neg c9] at h
        refine lv_iconst (v := 1) hx hb dX10_quarrel_111 (by decide) ?_
        refine lv_goto (tgt := 116) hx hb dX10_quarrel_112 (by decide) ?_
        refine lv_istore (lv' := [(5, .int 1), (4, .int x6), (3, .int x4), (0, .ref (g.2.2 + 127)), (1, .int p1), (2, .int p2)]) hx hb dX10_quarrel_116 hl (by decide) rfl (fun ls hl => ?_)
        refine lv_aload_n hx hb dX10_quarrel_118 rfl (lv_at hl 3 rfl) ?_
        refine tm_get (C := RX10) (T := TX10) (N := 23) (v := .ref (g.2.2 + 132)) hx hb hts nX10_quarrel_X10 hown hK hP (hF 127 (by decide)) (tm_mkX10 (by decide) _) rfl 4 (by decide) (hts _ kX10_quarrel_1) rfl dX10_quarrel_119 ?_
        refine lv_iload_n hx hb dX10_quarrel_122 rfl (lv_at hl 4 rfl) ?_
        refine lv_bipush (v := 32) hx hb dX10_quarrel_123 (by decide) ?_
        refine lv_iadd hx hb dX10_quarrel_125 ?_
        refine lv_iload_n hx hb dX10_quarrel_126 rfl (lv_at hl 5 rfl) ?_
        refine lv_iadd hx hb dX10_quarrel_127 ?_
        refine lv_dup2_11 hx hb dX10_quarrel_128 rfl rfl ?_
        obtain ⟨x33, e34, h⟩ := tm_bd_some h
        refine tm_iald hx hb hK hP (hF 132 (by decide)) (tm_mkI (n := 672) (by decide) (by decide)) e34 dX10_quarrel_129 ?_
        refine lv_iload hx hb dX10_quarrel_130 (lv_at hl 0 rfl) ?_
        refine lv_if_eq (tgt := 146) hx hb dX10_quarrel_132 (by decide) (fun c35 => absurd c35 (by decide)) (fun _ => ?_)
        refine lv_aload_n hx hb dX10_quarrel_135 rfl (lv_at hl 3 rfl) ?_
        refine lv_iload_n hx hb dX10_quarrel_136 rfl (lv_at hl 4 rfl) ?_
        refine lv_iconst (v := 2) hx hb dX10_quarrel_137 (by decide) ?_
        obtain ⟨r36, e37, h⟩ := tm_bd_some h
        refine tm_backI (r0 := r36) (M0 := M) (fun _ q => q) (tm_callV (As := [.int p1, .int 2]) (rest := [.int x33, .int ((p1 + 32) + p2), .ref (g.2.2 + 132)]) ⟨hx, hb, hml, hown, hts⟩ hK hG hP hS (c_X10_termOf l g A L hD hF M p1 2 r36 e37) (cwV 2 hts gX10_quarrel_X10_termOf rfl rfl rfl (by decide +kernel) ⟨Nat.le_of_ble_eq_true rfl, Nat.le_of_ble_eq_true rfl⟩) (tm_recv hK hP (hF 127 (by decide)) (ci := 9) rfl (tm_mkX10 (by decide) _)) rfl hl.1 (lv_room (Nat.le_of_ble_eq_true rfl)) dX10_quarrel_138 ⟨Nat.zero_le _, Nat.zero_le _⟩) hS (fun H locs hP hS => ?_)
        refine lv_iconst (v := 2) hx hb dX10_quarrel_141 (by decide) ?_
        refine lv_idiv hx hb dX10_quarrel_142 (by decide) ?_
        refine lv_goto (tgt := 152) hx hb dX10_quarrel_143 (by decide) ?_
        refine lv_iadd hx hb dX10_quarrel_152 ?_
        obtain ⟨M38, e39, h⟩ := tm_bd_some h
        refine tm_iast hx hb hK hP hD hS (hF 132 (by decide)) (tm_mkI (n := 672) (by decide) (by decide)) e39 dX10_quarrel_153 (fun H locs hP hS => ?_)
        refine lv_aload_n hx hb dX10_quarrel_154 rfl (lv_at hl 3 rfl) ?_
        refine tm_get (C := RX10) (T := TX10) (N := 23) (v := .ref (g.2.2 + 132)) hx hb hts nX10_quarrel_X10 hown hK hP (hF 127 (by decide)) (tm_mkX10 (by decide) _) rfl 4 (by decide) (hts _ kX10_quarrel_1) rfl dX10_quarrel_155 ?_
        refine lv_iload_n hx hb dX10_quarrel_158 rfl (lv_at hl 4 rfl) ?_
        refine lv_bipush (v := 26) hx hb dX10_quarrel_159 (by decide) ?_
        refine lv_iadd hx hb dX10_quarrel_161 ?_
        refine lv_iload_n hx hb dX10_quarrel_162 rfl (lv_at hl 5 rfl) ?_
        refine lv_iadd hx hb dX10_quarrel_163 ?_
        refine lv_dup2_11 hx hb dX10_quarrel_164 rfl rfl ?_
        obtain ⟨x40, e41, h⟩ := tm_bd_some h
        refine tm_iald hx hb hK hP (hF 132 (by decide)) (tm_mkI (n := 672) (by decide) (by decide)) e41 dX10_quarrel_165 ?_
        refine lv_iconst (v := 1) hx hb dX10_quarrel_166 (by decide) ?_
        refine lv_iadd hx hb dX10_quarrel_167 ?_
        obtain ⟨M42, e43, h⟩ := tm_bd_some h
        refine tm_iast hx hb hK hP hD hS (hF 132 (by decide)) (tm_mkI (n := 672) (by decide) (by decide)) e43 dX10_quarrel_168 (fun H locs hP hS => ?_)
        refine lv_aload_n hx hb dX10_quarrel_169 rfl (lv_at hl 3 rfl) ?_
        refine tm_get (C := RX10) (T := TX10) (N := 23) (v := .ref (g.2.2 + 132)) hx hb hts nX10_quarrel_X10 hown hK hP (hF 127 (by decide)) (tm_mkX10 (by decide) _) rfl 4 (by decide) (hts _ kX10_quarrel_1) rfl dX10_quarrel_170 ?_
        refine lv_iload_n hx hb dX10_quarrel_173 rfl (lv_at hl 4 rfl) ?_
        refine lv_bipush (v := 50) hx hb dX10_quarrel_174 (by decide) ?_
        refine lv_iadd hx hb dX10_quarrel_176 ?_
        refine lv_iload_n hx hb dX10_quarrel_177 rfl (lv_at hl 5 rfl) ?_
        refine lv_iadd hx hb dX10_quarrel_178 ?_
        refine lv_iload hx hb dX10_quarrel_179 (lv_at hl 1 rfl) ?_
        obtain ⟨M44, e45, h⟩ := tm_bd_some h
        refine tm_iast hx hb hK hP hD hS (hF 132 (by decide)) (tm_mkI (n := 672) (by decide) (by decide)) e45 dX10_quarrel_181 (fun H locs hP hS => ?_)
        refine lv_aload_n hx hb dX10_quarrel_182 rfl (lv_at hl 3 rfl) ?_
        refine tm_get (C := RX10) (T := TX10) (N := 23) (v := .ref (g.2.2 + 132)) hx hb hts nX10_quarrel_X10 hown hK hP (hF 127 (by decide)) (tm_mkX10 (by decide) _) rfl 4 (by decide) (hts _ kX10_quarrel_1) rfl dX10_quarrel_183 ?_
        refine lv_iload_n hx hb dX10_quarrel_186 rfl (lv_at hl 4 rfl) ?_
        refine lv_bipush (v := 7) hx hb dX10_quarrel_187 (by decide) ?_
        refine lv_iadd hx hb dX10_quarrel_189 ?_
        refine lv_iload_n hx hb dX10_quarrel_190 rfl (lv_at hl 5 rfl) ?_
        refine lv_iadd hx hb dX10_quarrel_191 ?_
        obtain ⟨x46, e47, h⟩ := tm_bd_some h
        refine tm_iald hx hb hK hP (hF 132 (by decide)) (tm_mkI (n := 672) (by decide) (by decide)) e47 dX10_quarrel_192 ?_
        refine lv_aload_n hx hb dX10_quarrel_193 rfl (lv_at hl 3 rfl) ?_
        refine lv_iload_n hx hb dX10_quarrel_194 rfl (lv_at hl 4 rfl) ?_
        refine lv_iconst (v := 5) hx hb dX10_quarrel_195 (by decide) ?_
        obtain ⟨r48, e49, h⟩ := tm_bd_some h
        refine tm_backI (r0 := r48) (M0 := M44) (fun _ q => q) (tm_callV (As := [.int p1, .int 5]) (rest := [.int x46]) ⟨hx, hb, hml, hown, hts⟩ hK hG hP hS (c_X10_termOf l g A L hD hF M44 p1 5 r48 e49) (cwV 2 hts gX10_quarrel_X10_termOf rfl rfl rfl (by decide +kernel) ⟨Nat.le_of_ble_eq_true rfl, Nat.le_of_ble_eq_true rfl⟩) (tm_recv hK hP (hF 127 (by decide)) (ci := 9) rfl (tm_mkX10 (by decide) _)) rfl hl.1 (lv_room (Nat.le_of_ble_eq_true rfl)) dX10_quarrel_196 ⟨Nat.zero_le _, Nat.zero_le _⟩) hS (fun H locs hP hS => ?_)
        refine lv_isub hx hb dX10_quarrel_199 ?_
        refine tm_nam h (fun x50 h => ?_)
        refine lv_istore (lv' := [(6, .int x50), (5, .int 1), (4, .int x6), (3, .int x4), (0, .ref (g.2.2 + 127)), (1, .int p1), (2, .int p2)]) hx hb dX10_quarrel_200 hl (by decide) rfl (fun ls hl => ?_)
        refine lv_aload_n hx hb dX10_quarrel_202 rfl (lv_at hl 4 rfl) ?_
        refine tm_get (C := RX10) (T := TX10) (N := 23) (v := .ref (g.2.2 + 132)) hx hb hts nX10_quarrel_X10 hown hK hP (hF 127 (by decide)) (tm_mkX10 (by decide) _) rfl 4 (by decide) (hts _ kX10_quarrel_1) rfl dX10_quarrel_203 ?_
        refine lv_iload_n hx hb dX10_quarrel_206 rfl (lv_at hl 5 rfl) ?_
        refine lv_bipush (v := 7) hx hb dX10_quarrel_207 (by decide) ?_
        refine lv_iadd hx hb dX10_quarrel_209 ?_
        refine lv_iload_n hx hb dX10_quarrel_210 rfl (lv_at hl 6 rfl) ?_
        refine lv_iadd hx hb dX10_quarrel_211 ?_
        refine lv_iload hx hb dX10_quarrel_212 (lv_at hl 0 rfl) ?_
        refine lv_if_ge (tgt := 221) hx hb dX10_quarrel_214 (by decide) (fun c51 => ?_) (fun c51 => ?_)
        · rw [if_pos c51] at h
          refine lv_iload hx hb dX10_quarrel_221 (lv_at hl 0 rfl) ?_
          obtain ⟨M52, e53, h⟩ := tm_bd_some h
          refine tm_iast hx hb hK hP hD hS (hF 132 (by decide)) (tm_mkI (n := 672) (by decide) (by decide)) e53 dX10_quarrel_223 (fun H locs hP hS => ?_)
          exact tm_vret C0 (Option.some.inj h) hP hS dX10_quarrel_224
        · rw [if_neg c51] at h
          refine lv_iconst (v := 0) hx hb dX10_quarrel_217 (by decide) ?_
          refine lv_goto (tgt := 223) hx hb dX10_quarrel_218 (by decide) ?_
          obtain ⟨M54, e55, h⟩ := tm_bd_some h
          refine tm_iast hx hb hK hP hD hS (hF 132 (by decide)) (tm_mkI (n := 672) (by decide) (by decide)) e55 dX10_quarrel_223 (fun H locs hP hS => ?_)
          exact tm_vret C0 (Option.some.inj h) hP hS dX10_quarrel_224
    · rw [if_pos c8] at h
      refine lv_iload hx hb dX10_quarrel_87 (lv_at hl 0 rfl) ?_
      refine lv_bipush (v := 10) hx hb dX10_quarrel_89 (by decide) ?_
      refine lv_icmp_lt (tgt := 98) hx hb dX10_quarrel_91 (by decide) (fun c56 => ?_) (fun c56 => ?_)
      · rw [if_pos c56] at h
        refine lv_iconst (v := 0) hx hb dX10_quarrel_98 (by decide) ?_
        refine lv_goto (tgt := 116) hx hb dX10_quarrel_99 (by decide) ?_
        refine lv_istore (lv' := [(5, .int 0), (4, .int x6), (3, .int x4), (0, .ref (g.2.2 + 127)), (1, .int p1), (2, .int p2)]) hx hb dX10_quarrel_116 hl (by decide) rfl (fun ls hl => ?_)
        refine lv_aload_n hx hb dX10_quarrel_118 rfl (lv_at hl 3 rfl) ?_
        refine tm_get (C := RX10) (T := TX10) (N := 23) (v := .ref (g.2.2 + 132)) hx hb hts nX10_quarrel_X10 hown hK hP (hF 127 (by decide)) (tm_mkX10 (by decide) _) rfl 4 (by decide) (hts _ kX10_quarrel_1) rfl dX10_quarrel_119 ?_
        refine lv_iload_n hx hb dX10_quarrel_122 rfl (lv_at hl 4 rfl) ?_
        refine lv_bipush (v := 32) hx hb dX10_quarrel_123 (by decide) ?_
        refine lv_iadd hx hb dX10_quarrel_125 ?_
        refine lv_iload_n hx hb dX10_quarrel_126 rfl (lv_at hl 5 rfl) ?_
        refine lv_iadd hx hb dX10_quarrel_127 ?_
        refine lv_dup2_11 hx hb dX10_quarrel_128 rfl rfl ?_
        obtain ⟨x57, e58, h⟩ := tm_bd_some h
        refine tm_iald hx hb hK hP (hF 132 (by decide)) (tm_mkI (n := 672) (by decide) (by decide)) e58 dX10_quarrel_129 ?_
        refine lv_iload hx hb dX10_quarrel_130 (lv_at hl 0 rfl) ?_
        refine lv_if_eq (tgt := 146) hx hb dX10_quarrel_132 (by decide) (fun _ => ?_) (fun c59 => absurd (by decide) c59)
        refine lv_aload_n hx hb dX10_quarrel_146 rfl (lv_at hl 3 rfl) ?_
        refine lv_iload_n hx hb dX10_quarrel_147 rfl (lv_at hl 4 rfl) ?_
        refine lv_iconst (v := 2) hx hb dX10_quarrel_148 (by decide) ?_
        obtain ⟨r60, e61, h⟩ := tm_bd_some h
        refine tm_backI (r0 := r60) (M0 := M) (fun _ q => q) (tm_callV (As := [.int p1, .int 2]) (rest := [.int x57, .int ((p1 + 32) + p2), .ref (g.2.2 + 132)]) ⟨hx, hb, hml, hown, hts⟩ hK hG hP hS (c_X10_termOf l g A L hD hF M p1 2 r60 e61) (cwV 2 hts gX10_quarrel_X10_termOf rfl rfl rfl (by decide +kernel) ⟨Nat.le_of_ble_eq_true rfl, Nat.le_of_ble_eq_true rfl⟩) (tm_recv hK hP (hF 127 (by decide)) (ci := 9) rfl (tm_mkX10 (by decide) _)) rfl hl.1 (lv_room (Nat.le_of_ble_eq_true rfl)) dX10_quarrel_149 ⟨Nat.zero_le _, Nat.zero_le _⟩) hS (fun H locs hP hS => ?_)
        refine lv_iadd hx hb dX10_quarrel_152 ?_
        obtain ⟨M62, e63, h⟩ := tm_bd_some h
        refine tm_iast hx hb hK hP hD hS (hF 132 (by decide)) (tm_mkI (n := 672) (by decide) (by decide)) e63 dX10_quarrel_153 (fun H locs hP hS => ?_)
        refine lv_aload_n hx hb dX10_quarrel_154 rfl (lv_at hl 3 rfl) ?_
        refine tm_get (C := RX10) (T := TX10) (N := 23) (v := .ref (g.2.2 + 132)) hx hb hts nX10_quarrel_X10 hown hK hP (hF 127 (by decide)) (tm_mkX10 (by decide) _) rfl 4 (by decide) (hts _ kX10_quarrel_1) rfl dX10_quarrel_155 ?_
        refine lv_iload_n hx hb dX10_quarrel_158 rfl (lv_at hl 4 rfl) ?_
        refine lv_bipush (v := 26) hx hb dX10_quarrel_159 (by decide) ?_
        refine lv_iadd hx hb dX10_quarrel_161 ?_
        refine lv_iload_n hx hb dX10_quarrel_162 rfl (lv_at hl 5 rfl) ?_
        refine lv_iadd hx hb dX10_quarrel_163 ?_
        refine lv_dup2_11 hx hb dX10_quarrel_164 rfl rfl ?_
        obtain ⟨x64, e65, h⟩ := tm_bd_some h
        refine tm_iald hx hb hK hP (hF 132 (by decide)) (tm_mkI (n := 672) (by decide) (by decide)) e65 dX10_quarrel_165 ?_
        refine lv_iconst (v := 1) hx hb dX10_quarrel_166 (by decide) ?_
        refine lv_iadd hx hb dX10_quarrel_167 ?_
        obtain ⟨M66, e67, h⟩ := tm_bd_some h
        refine tm_iast hx hb hK hP hD hS (hF 132 (by decide)) (tm_mkI (n := 672) (by decide) (by decide)) e67 dX10_quarrel_168 (fun H locs hP hS => ?_)
        refine lv_aload_n hx hb dX10_quarrel_169 rfl (lv_at hl 3 rfl) ?_
        refine tm_get (C := RX10) (T := TX10) (N := 23) (v := .ref (g.2.2 + 132)) hx hb hts nX10_quarrel_X10 hown hK hP (hF 127 (by decide)) (tm_mkX10 (by decide) _) rfl 4 (by decide) (hts _ kX10_quarrel_1) rfl dX10_quarrel_170 ?_
        refine lv_iload_n hx hb dX10_quarrel_173 rfl (lv_at hl 4 rfl) ?_
        refine lv_bipush (v := 50) hx hb dX10_quarrel_174 (by decide) ?_
        refine lv_iadd hx hb dX10_quarrel_176 ?_
        refine lv_iload_n hx hb dX10_quarrel_177 rfl (lv_at hl 5 rfl) ?_
        refine lv_iadd hx hb dX10_quarrel_178 ?_
        refine lv_iload hx hb dX10_quarrel_179 (lv_at hl 1 rfl) ?_
        obtain ⟨M68, e69, h⟩ := tm_bd_some h
        refine tm_iast hx hb hK hP hD hS (hF 132 (by decide)) (tm_mkI (n := 672) (by decide) (by decide)) e69 dX10_quarrel_181 (fun H locs hP hS => ?_)
        refine lv_aload_n hx hb dX10_quarrel_182 rfl (lv_at hl 3 rfl) ?_
        refine tm_get (C := RX10) (T := TX10) (N := 23) (v := .ref (g.2.2 + 132)) hx hb hts nX10_quarrel_X10 hown hK hP (hF 127 (by decide)) (tm_mkX10 (by decide) _) rfl 4 (by decide) (hts _ kX10_quarrel_1) rfl dX10_quarrel_183 ?_
        refine lv_iload_n hx hb dX10_quarrel_186 rfl (lv_at hl 4 rfl) ?_
        refine lv_bipush (v := 7) hx hb dX10_quarrel_187 (by decide) ?_
        refine lv_iadd hx hb dX10_quarrel_189 ?_
        refine lv_iload_n hx hb dX10_quarrel_190 rfl (lv_at hl 5 rfl) ?_
        refine lv_iadd hx hb dX10_quarrel_191 ?_
        obtain ⟨x70, e71, h⟩ := tm_bd_some h
        refine tm_iald hx hb hK hP (hF 132 (by decide)) (tm_mkI (n := 672) (by decide) (by decide)) e71 dX10_quarrel_192 ?_
        refine lv_aload_n hx hb dX10_quarrel_193 rfl (lv_at hl 3 rfl) ?_
        refine lv_iload_n hx hb dX10_quarrel_194 rfl (lv_at hl 4 rfl) ?_
        refine lv_iconst (v := 5) hx hb dX10_quarrel_195 (by decide) ?_
        obtain ⟨r72, e73, h⟩ := tm_bd_some h
        refine tm_backI (r0 := r72) (M0 := M68) (fun _ q => q) (tm_callV (As := [.int p1, .int 5]) (rest := [.int x70]) ⟨hx, hb, hml, hown, hts⟩ hK hG hP hS (c_X10_termOf l g A L hD hF M68 p1 5 r72 e73) (cwV 2 hts gX10_quarrel_X10_termOf rfl rfl rfl (by decide +kernel) ⟨Nat.le_of_ble_eq_true rfl, Nat.le_of_ble_eq_true rfl⟩) (tm_recv hK hP (hF 127 (by decide)) (ci := 9) rfl (tm_mkX10 (by decide) _)) rfl hl.1 (lv_room (Nat.le_of_ble_eq_true rfl)) dX10_quarrel_196 ⟨Nat.zero_le _, Nat.zero_le _⟩) hS (fun H locs hP hS => ?_)
        refine lv_isub hx hb dX10_quarrel_199 ?_
        refine tm_nam h (fun x74 h => ?_)
        refine lv_istore (lv' := [(6, .int x74), (5, .int 0), (4, .int x6), (3, .int x4), (0, .ref (g.2.2 + 127)), (1, .int p1), (2, .int p2)]) hx hb dX10_quarrel_200 hl (by decide) rfl (fun ls hl => ?_)
        refine lv_aload_n hx hb dX10_quarrel_202 rfl (lv_at hl 4 rfl) ?_
        refine tm_get (C := RX10) (T := TX10) (N := 23) (v := .ref (g.2.2 + 132)) hx hb hts nX10_quarrel_X10 hown hK hP (hF 127 (by decide)) (tm_mkX10 (by decide) _) rfl 4 (by decide) (hts _ kX10_quarrel_1) rfl dX10_quarrel_203 ?_
        refine lv_iload_n hx hb dX10_quarrel_206 rfl (lv_at hl 5 rfl) ?_
        refine lv_bipush (v := 7) hx hb dX10_quarrel_207 (by decide) ?_
        refine lv_iadd hx hb dX10_quarrel_209 ?_
        refine lv_iload_n hx hb dX10_quarrel_210 rfl (lv_at hl 6 rfl) ?_
        refine lv_iadd hx hb dX10_quarrel_211 ?_
        refine lv_iload hx hb dX10_quarrel_212 (lv_at hl 0 rfl) ?_
        refine lv_if_ge (tgt := 221) hx hb dX10_quarrel_214 (by decide) (fun c75 => ?_) (fun c75 => ?_)
        · rw [if_pos c75] at h
          refine lv_iload hx hb dX10_quarrel_221 (lv_at hl 0 rfl) ?_
          obtain ⟨M76, e77, h⟩ := tm_bd_some h
          refine tm_iast hx hb hK hP hD hS (hF 132 (by decide)) (tm_mkI (n := 672) (by decide) (by decide)) e77 dX10_quarrel_223 (fun H locs hP hS => ?_)
          exact tm_vret C0 (Option.some.inj h) hP hS dX10_quarrel_224
        · rw [if_neg c75] at h
          refine lv_iconst (v := 0) hx hb dX10_quarrel_217 (by decide) ?_
          refine lv_goto (tgt := 223) hx hb dX10_quarrel_218 (by decide) ?_
          obtain ⟨M78, e79, h⟩ := tm_bd_some h
          refine tm_iast hx hb hK hP hD hS (hF 132 (by decide)) (tm_mkI (n := 672) (by decide) (by decide)) e79 dX10_quarrel_223 (fun H locs hP hS => ?_)
          exact tm_vret C0 (Option.some.inj h) hP hS dX10_quarrel_224
      · rw [if_neg c56] at h
        refine lv_iconst (v := 1) hx hb dX10_quarrel_94 (by decide) ?_
        refine lv_goto (tgt := 116) hx hb dX10_quarrel_95 (by decide) ?_
        refine lv_istore (lv' := [(5, .int 1), (4, .int x6), (3, .int x4), (0, .ref (g.2.2 + 127)), (1, .int p1), (2, .int p2)]) hx hb dX10_quarrel_116 hl (by decide) rfl (fun ls hl => ?_)
        refine lv_aload_n hx hb dX10_quarrel_118 rfl (lv_at hl 3 rfl) ?_
        refine tm_get (C := RX10) (T := TX10) (N := 23) (v := .ref (g.2.2 + 132)) hx hb hts nX10_quarrel_X10 hown hK hP (hF 127 (by decide)) (tm_mkX10 (by decide) _) rfl 4 (by decide) (hts _ kX10_quarrel_1) rfl dX10_quarrel_119 ?_
        refine lv_iload_n hx hb dX10_quarrel_122 rfl (lv_at hl 4 rfl) ?_
        refine lv_bipush (v := 32) hx hb dX10_quarrel_123 (by decide) ?_
        refine lv_iadd hx hb dX10_quarrel_125 ?_
        refine lv_iload_n hx hb dX10_quarrel_126 rfl (lv_at hl 5 rfl) ?_
        refine lv_iadd hx hb dX10_quarrel_127 ?_
        refine lv_dup2_11 hx hb dX10_quarrel_128 rfl rfl ?_
        obtain ⟨x80, e81, h⟩ := tm_bd_some h
        refine tm_iald hx hb hK hP (hF 132 (by decide)) (tm_mkI (n := 672) (by decide) (by decide)) e81 dX10_quarrel_129 ?_
        refine lv_iload hx hb dX10_quarrel_130 (lv_at hl 0 rfl) ?_
        refine lv_if_eq (tgt := 146) hx hb dX10_quarrel_132 (by decide) (fun c82 => absurd c82 (by decide)) (fun _ => ?_)
        refine lv_aload_n hx hb dX10_quarrel_135 rfl (lv_at hl 3 rfl) ?_
        refine lv_iload_n hx hb dX10_quarrel_136 rfl (lv_at hl 4 rfl) ?_
        refine lv_iconst (v := 2) hx hb dX10_quarrel_137 (by decide) ?_
        obtain ⟨r83, e84, h⟩ := tm_bd_some h
        refine tm_backI (r0 := r83) (M0 := M) (fun _ q => q) (tm_callV (As := [.int p1, .int 2]) (rest := [.int x80, .int ((p1 + 32) + p2), .ref (g.2.2 + 132)]) ⟨hx, hb, hml, hown, hts⟩ hK hG hP hS (c_X10_termOf l g A L hD hF M p1 2 r83 e84) (cwV 2 hts gX10_quarrel_X10_termOf rfl rfl rfl (by decide +kernel) ⟨Nat.le_of_ble_eq_true rfl, Nat.le_of_ble_eq_true rfl⟩) (tm_recv hK hP (hF 127 (by decide)) (ci := 9) rfl (tm_mkX10 (by decide) _)) rfl hl.1 (lv_room (Nat.le_of_ble_eq_true rfl)) dX10_quarrel_138 ⟨Nat.zero_le _, Nat.zero_le _⟩) hS (fun H locs hP hS => ?_)
        refine lv_iconst (v := 2) hx hb dX10_quarrel_141 (by decide) ?_
        refine lv_idiv hx hb dX10_quarrel_142 (by decide) ?_
        refine lv_goto (tgt := 152) hx hb dX10_quarrel_143 (by decide) ?_
        refine lv_iadd hx hb dX10_quarrel_152 ?_
        obtain ⟨M85, e86, h⟩ := tm_bd_some h
        refine tm_iast hx hb hK hP hD hS (hF 132 (by decide)) (tm_mkI (n := 672) (by decide) (by decide)) e86 dX10_quarrel_153 (fun H locs hP hS => ?_)
        refine lv_aload_n hx hb dX10_quarrel_154 rfl (lv_at hl 3 rfl) ?_
        refine tm_get (C := RX10) (T := TX10) (N := 23) (v := .ref (g.2.2 + 132)) hx hb hts nX10_quarrel_X10 hown hK hP (hF 127 (by decide)) (tm_mkX10 (by decide) _) rfl 4 (by decide) (hts _ kX10_quarrel_1) rfl dX10_quarrel_155 ?_
        refine lv_iload_n hx hb dX10_quarrel_158 rfl (lv_at hl 4 rfl) ?_
        refine lv_bipush (v := 26) hx hb dX10_quarrel_159 (by decide) ?_
        refine lv_iadd hx hb dX10_quarrel_161 ?_
        refine lv_iload_n hx hb dX10_quarrel_162 rfl (lv_at hl 5 rfl) ?_
        refine lv_iadd hx hb dX10_quarrel_163 ?_
        refine lv_dup2_11 hx hb dX10_quarrel_164 rfl rfl ?_
        obtain ⟨x87, e88, h⟩ := tm_bd_some h
        refine tm_iald hx hb hK hP (hF 132 (by decide)) (tm_mkI (n := 672) (by decide) (by decide)) e88 dX10_quarrel_165 ?_
        refine lv_iconst (v := 1) hx hb dX10_quarrel_166 (by decide) ?_
        refine lv_iadd hx hb dX10_quarrel_167 ?_
        obtain ⟨M89, e90, h⟩ := tm_bd_some h
        refine tm_iast hx hb hK hP hD hS (hF 132 (by decide)) (tm_mkI (n := 672) (by decide) (by decide)) e90 dX10_quarrel_168 (fun H locs hP hS => ?_)
        refine lv_aload_n hx hb dX10_quarrel_169 rfl (lv_at hl 3 rfl) ?_
        refine tm_get (C := RX10) (T := TX10) (N := 23) (v := .ref (g.2.2 + 132)) hx hb hts nX10_quarrel_X10 hown hK hP (hF 127 (by decide)) (tm_mkX10 (by decide) _) rfl 4 (by decide) (hts _ kX10_quarrel_1) rfl dX10_quarrel_170 ?_
        refine lv_iload_n hx hb dX10_quarrel_173 rfl (lv_at hl 4 rfl) ?_
        refine lv_bipush (v := 50) hx hb dX10_quarrel_174 (by decide) ?_
        refine lv_iadd hx hb dX10_quarrel_176 ?_
        refine lv_iload_n hx hb dX10_quarrel_177 rfl (lv_at hl 5 rfl) ?_
        refine lv_iadd hx hb dX10_quarrel_178 ?_
        refine lv_iload hx hb dX10_quarrel_179 (lv_at hl 1 rfl) ?_
        obtain ⟨M91, e92, h⟩ := tm_bd_some h
        refine tm_iast hx hb hK hP hD hS (hF 132 (by decide)) (tm_mkI (n := 672) (by decide) (by decide)) e92 dX10_quarrel_181 (fun H locs hP hS => ?_)
        refine lv_aload_n hx hb dX10_quarrel_182 rfl (lv_at hl 3 rfl) ?_
        refine tm_get (C := RX10) (T := TX10) (N := 23) (v := .ref (g.2.2 + 132)) hx hb hts nX10_quarrel_X10 hown hK hP (hF 127 (by decide)) (tm_mkX10 (by decide) _) rfl 4 (by decide) (hts _ kX10_quarrel_1) rfl dX10_quarrel_183 ?_
        refine lv_iload_n hx hb dX10_quarrel_186 rfl (lv_at hl 4 rfl) ?_
        refine lv_bipush (v := 7) hx hb dX10_quarrel_187 (by decide) ?_
        refine lv_iadd hx hb dX10_quarrel_189 ?_
        refine lv_iload_n hx hb dX10_quarrel_190 rfl (lv_at hl 5 rfl) ?_
        refine lv_iadd hx hb dX10_quarrel_191 ?_
        obtain ⟨x93, e94, h⟩ := tm_bd_some h
        refine tm_iald hx hb hK hP (hF 132 (by decide)) (tm_mkI (n := 672) (by decide) (by decide)) e94 dX10_quarrel_192 ?_
        refine lv_aload_n hx hb dX10_quarrel_193 rfl (lv_at hl 3 rfl) ?_
        refine lv_iload_n hx hb dX10_quarrel_194 rfl (lv_at hl 4 rfl) ?_
        refine lv_iconst (v := 5) hx hb dX10_quarrel_195 (by decide) ?_
        obtain ⟨r95, e96, h⟩ := tm_bd_some h
        refine tm_backI (r0 := r95) (M0 := M91) (fun _ q => q) (tm_callV (As := [.int p1, .int 5]) (rest := [.int x93]) ⟨hx, hb, hml, hown, hts⟩ hK hG hP hS (c_X10_termOf l g A L hD hF M91 p1 5 r95 e96) (cwV 2 hts gX10_quarrel_X10_termOf rfl rfl rfl (by decide +kernel) ⟨Nat.le_of_ble_eq_true rfl, Nat.le_of_ble_eq_true rfl⟩) (tm_recv hK hP (hF 127 (by decide)) (ci := 9) rfl (tm_mkX10 (by decide) _)) rfl hl.1 (lv_room (Nat.le_of_ble_eq_true rfl)) dX10_quarrel_196 ⟨Nat.zero_le _, Nat.zero_le _⟩) hS (fun H locs hP hS => ?_)
        refine lv_isub hx hb dX10_quarrel_199 ?_
        refine tm_nam h (fun x97 h => ?_)
        refine lv_istore (lv' := [(6, .int x97), (5, .int 1), (4, .int x6), (3, .int x4), (0, .ref (g.2.2 + 127)), (1, .int p1), (2, .int p2)]) hx hb dX10_quarrel_200 hl (by decide) rfl (fun ls hl => ?_)
        refine lv_aload_n hx hb dX10_quarrel_202 rfl (lv_at hl 4 rfl) ?_
        refine tm_get (C := RX10) (T := TX10) (N := 23) (v := .ref (g.2.2 + 132)) hx hb hts nX10_quarrel_X10 hown hK hP (hF 127 (by decide)) (tm_mkX10 (by decide) _) rfl 4 (by decide) (hts _ kX10_quarrel_1) rfl dX10_quarrel_203 ?_
        refine lv_iload_n hx hb dX10_quarrel_206 rfl (lv_at hl 5 rfl) ?_
        refine lv_bipush (v := 7) hx hb dX10_quarrel_207 (by decide) ?_
        refine lv_iadd hx hb dX10_quarrel_209 ?_
        refine lv_iload_n hx hb dX10_quarrel_210 rfl (lv_at hl 6 rfl) ?_
        refine lv_iadd hx hb dX10_quarrel_211 ?_
        refine lv_iload hx hb dX10_quarrel_212 (lv_at hl 0 rfl) ?_
        refine lv_if_ge (tgt := 221) hx hb dX10_quarrel_214 (by decide) (fun c98 => ?_) (fun c98 => ?_)
        · rw [if_pos c98] at h
          refine lv_iload hx hb dX10_quarrel_221 (lv_at hl 0 rfl) ?_
          obtain ⟨M99, e100, h⟩ := tm_bd_some h
          refine tm_iast hx hb hK hP hD hS (hF 132 (by decide)) (tm_mkI (n := 672) (by decide) (by decide)) e100 dX10_quarrel_223 (fun H locs hP hS => ?_)
          exact tm_vret C0 (Option.some.inj h) hP hS dX10_quarrel_224
        · rw [if_neg c98] at h
          refine lv_iconst (v := 0) hx hb dX10_quarrel_217 (by decide) ?_
          refine lv_goto (tgt := 223) hx hb dX10_quarrel_218 (by decide) ?_
          obtain ⟨M101, e102, h⟩ := tm_bd_some h
          refine tm_iast hx hb hK hP hD hS (hF 132 (by decide)) (tm_mkI (n := 672) (by decide) (by decide)) e102 dX10_quarrel_223 (fun H locs hP hS => ?_)
          exact tm_vret C0 (Option.some.inj h) hP hS dX10_quarrel_224
  · rw [if_pos c3] at h
    refine lv_aload_n hx hb dX10_quarrel_10 rfl (lv_at hl 0 rfl) ?_
    refine tm_get (C := RX10) (T := TX10) (N := 23) (v := .ref (g.2.2 + 132)) hx hb hts nX10_quarrel_X10 hown hK hP (hF 127 (by decide)) (tm_mkX10 (by decide) _) rfl 4 (by decide) (hts _ kX10_quarrel_1) rfl dX10_quarrel_11 ?_
    refine lv_iload_n hx hb dX10_quarrel_14 rfl (lv_at hl 1 rfl) ?_
    refine lv_bipush (v := 13) hx hb dX10_quarrel_15 (by decide) ?_
    refine lv_iadd hx hb dX10_quarrel_17 ?_
    refine lv_iload_n hx hb dX10_quarrel_18 rfl (lv_at hl 2 rfl) ?_
    refine lv_iadd hx hb dX10_quarrel_19 ?_
    refine lv_dup2_11 hx hb dX10_quarrel_20 rfl rfl ?_
    obtain ⟨x103, e104, h⟩ := tm_bd_some h
    refine tm_iald hx hb hK hP (hF 132 (by decide)) (tm_mkI (n := 672) (by decide) (by decide)) e104 dX10_quarrel_21 ?_
    refine lv_iconst (v := 1) hx hb dX10_quarrel_22 (by decide) ?_
    refine lv_iadd hx hb dX10_quarrel_23 ?_
    obtain ⟨M105, e106, h⟩ := tm_bd_some h
    refine tm_iast hx hb hK hP hD hS (hF 132 (by decide)) (tm_mkI (n := 672) (by decide) (by decide)) e106 dX10_quarrel_24 (fun H locs hP hS => ?_)
    refine lv_aload_n hx hb dX10_quarrel_25 rfl (lv_at hl 0 rfl) ?_
    refine tm_get (C := RX10) (T := TX10) (N := 23) (v := .ref (g.2.2 + 132)) hx hb hts nX10_quarrel_X10 hown hK hP (hF 127 (by decide)) (tm_mkX10 (by decide) _) rfl 4 (by decide) (hts _ kX10_quarrel_1) rfl dX10_quarrel_26 ?_
    refine lv_iload_n hx hb dX10_quarrel_29 rfl (lv_at hl 1 rfl) ?_
    refine lv_bipush (v := 19) hx hb dX10_quarrel_30 (by decide) ?_
    refine lv_iadd hx hb dX10_quarrel_32 ?_
    refine lv_dup2_11 hx hb dX10_quarrel_33 rfl rfl ?_
    obtain ⟨x107, e108, h⟩ := tm_bd_some h
    refine tm_iald hx hb hK hP (hF 132 (by decide)) (tm_mkI (n := 672) (by decide) (by decide)) e108 dX10_quarrel_34 ?_
    refine lv_aload_n hx hb dX10_quarrel_35 rfl (lv_at hl 0 rfl) ?_
    refine tm_get (C := RX10) (T := TX10) (N := 23) (v := .ref (g.2.2 + 132)) hx hb hts nX10_quarrel_X10 hown hK hP (hF 127 (by decide)) (tm_mkX10 (by decide) _) rfl 4 (by decide) (hts _ kX10_quarrel_1) rfl dX10_quarrel_36 ?_
    refine lv_iload_n hx hb dX10_quarrel_39 rfl (lv_at hl 1 rfl) ?_
    refine lv_bipush (v := 13) hx hb dX10_quarrel_40 (by decide) ?_
    refine lv_iadd hx hb dX10_quarrel_42 ?_
    refine lv_iload_n hx hb dX10_quarrel_43 rfl (lv_at hl 2 rfl) ?_
    refine lv_iadd hx hb dX10_quarrel_44 ?_
    obtain ⟨x109, e110, h⟩ := tm_bd_some h
    refine tm_iald hx hb hK hP (hF 132 (by decide)) (tm_mkI (n := 672) (by decide) (by decide)) e110 dX10_quarrel_45 ?_
    refine lv_iconst (v := 3) hx hb dX10_quarrel_46 (by decide) ?_
    refine lv_icmp_ne (tgt := 56) hx hb dX10_quarrel_47 (by decide) (fun c111 => ?_) (fun c111 => ?_)
    · rw [if_neg c111] at h
      refine lv_iconst (v := 0) hx hb dX10_quarrel_56 (by decide) ?_
      refine lv_ior hx hb dX10_quarrel_57 ?_
      obtain ⟨M112, e113, h⟩ := tm_bd_some h
      refine tm_iast hx hb hK hP hD hS (hF 132 (by decide)) (tm_mkI (n := 672) (by decide) (by decide)) e113 dX10_quarrel_58 (fun H locs hP hS => ?_)
      exact tm_vret C0 (Option.some.inj h) hP hS dX10_quarrel_59
    · rw [if_pos c111] at h
      refine lv_iconst (v := 1) hx hb dX10_quarrel_50 (by decide) ?_
      refine lv_iload_n hx hb dX10_quarrel_51 rfl (lv_at hl 2 rfl) ?_
      refine lv_ishl hx hb dX10_quarrel_52 ?_
      refine lv_goto (tgt := 57) hx hb dX10_quarrel_53 (by decide) ?_
      refine lv_ior hx hb dX10_quarrel_57 ?_
      obtain ⟨M114, e115, h⟩ := tm_bd_some h
      refine tm_iast hx hb hK hP hD hS (hF 132 (by decide)) (tm_mkI (n := 672) (by decide) (by decide)) e115 dX10_quarrel_58 (fun H locs hP hS => ?_)
      exact tm_vret C0 (Option.some.inj h) hP hS dX10_quarrel_59
/-! X10_strainMore -/
theorem nX10_strainMore_X10 : ∀ w ∈ wsX100, w ∈ wsX10_strainMore := by decide +kernel
theorem kX10_strainMore_0 : Cond.fieldLink RX10 22 "QuarrelDeskModel" "row" "[I" ∈ wsX10_strainMore := by decide +kernel
def f_X10_strainMore (M : tm_M) (p1 : Int32) (p2 : Int32) (p3 : Int32) : Option tm_M :=
  (tm_rd M 132 672 ((p1 + 7) + p2)).bind fun x1 =>
  (some (x1 + p3)).bind fun x3 =>
  if x3 ≤ 99 then
    (tm_wr M 132 672 ((p1 + 7) + p2) x3).bind fun M5 =>
    some M5
  else
    (tm_wr M 132 672 ((p1 + 7) + p2) 99).bind fun M7 =>
    some M7
set_option maxHeartbeats 4000000 in
set_option maxRecDepth 100000 in
theorem c_X10_strainMore (l : Launch) (g : tm_G) (A : Nat → Prop) (L : List Nat) (hD : ∀ M, va_D A (tm_ws g L M)) (hF : ∀ o, tm_all o → o ∈ L) (M : tm_M) (p1 : Int32) (p2 : Int32) (p3 : Int32) (M0 : tm_M) (h : f_X10_strainMore M p1 p2 p3 = some M0) : Met l yX10_strainMore wsX10_strainMore { frames := 0, cells := 0, slots := 0, locals := 0 } (tm_PC g A L M [.ref (g.2.2 + 127), .int p1, .int p2, .int p3]) (tm_QV g A L M0) 0 0 A := by
  refine tm_start (cc := cX10_strainMore) (nL := 5) (ret := none) (F := tm_all) (plainFor_of_name (by decide)) rfl (Nat.le_of_ble_eq_true rfl) hD hF (fun p e s m args below meth c ls C0 hP hS hl => ?_)
  have hl : lv_has ls 5 [(0, .ref (g.2.2 + 127)), (1, .int p1), (2, .int p2), (3, .int p3)] := hl
  have C0 : tm_C p m c cX10_strainMore 5 s args wsX10_strainMore RX10 meth none g A L tm_all := C0
  obtain ⟨⟨hx, hb, hml, hown, hts⟩, hr, hlk, hK, hD, hG, hF⟩ := id C0
  unfold f_X10_strainMore at h
  refine lv_aload_n hx hb dX10_strainMore_0 rfl (lv_at hl 0 rfl) ?_
  refine tm_get (C := RX10) (T := TX10) (N := 23) (v := .ref (g.2.2 + 132)) hx hb hts nX10_strainMore_X10 hown hK hP (hF 127 (by decide)) (tm_mkX10 (by decide) _) rfl 4 (by decide) (hts _ kX10_strainMore_0) rfl dX10_strainMore_1 ?_
  refine lv_iload_n hx hb dX10_strainMore_4 rfl (lv_at hl 1 rfl) ?_
  refine lv_bipush (v := 7) hx hb dX10_strainMore_5 (by decide) ?_
  refine lv_iadd hx hb dX10_strainMore_7 ?_
  refine lv_iload_n hx hb dX10_strainMore_8 rfl (lv_at hl 2 rfl) ?_
  refine lv_iadd hx hb dX10_strainMore_9 ?_
  obtain ⟨x1, e2, h⟩ := tm_bd_some h
  refine tm_iald hx hb hK hP (hF 132 (by decide)) (tm_mkI (n := 672) (by decide) (by decide)) e2 dX10_strainMore_10 ?_
  refine lv_iload_n hx hb dX10_strainMore_11 rfl (lv_at hl 3 rfl) ?_
  refine lv_iadd hx hb dX10_strainMore_12 ?_
  refine tm_nam h (fun x3 h => ?_)
  refine lv_istore (lv' := [(4, .int x3), (0, .ref (g.2.2 + 127)), (1, .int p1), (2, .int p2), (3, .int p3)]) hx hb dX10_strainMore_13 hl (by decide) rfl (fun ls hl => ?_)
  refine lv_aload_n hx hb dX10_strainMore_15 rfl (lv_at hl 1 rfl) ?_
  refine tm_get (C := RX10) (T := TX10) (N := 23) (v := .ref (g.2.2 + 132)) hx hb hts nX10_strainMore_X10 hown hK hP (hF 127 (by decide)) (tm_mkX10 (by decide) _) rfl 4 (by decide) (hts _ kX10_strainMore_0) rfl dX10_strainMore_16 ?_
  refine lv_iload_n hx hb dX10_strainMore_19 rfl (lv_at hl 2 rfl) ?_
  refine lv_bipush (v := 7) hx hb dX10_strainMore_20 (by decide) ?_
  refine lv_iadd hx hb dX10_strainMore_22 ?_
  refine lv_iload_n hx hb dX10_strainMore_23 rfl (lv_at hl 3 rfl) ?_
  refine lv_iadd hx hb dX10_strainMore_24 ?_
  refine lv_iload hx hb dX10_strainMore_25 (lv_at hl 0 rfl) ?_
  refine lv_bipush (v := 99) hx hb dX10_strainMore_27 (by decide) ?_
  refine lv_icmp_le (tgt := 37) hx hb dX10_strainMore_29 (by decide) (fun c4 => ?_) (fun c4 => ?_)
  · rw [if_pos c4] at h
    refine lv_iload hx hb dX10_strainMore_37 (lv_at hl 0 rfl) ?_
    obtain ⟨M5, e6, h⟩ := tm_bd_some h
    refine tm_iast hx hb hK hP hD hS (hF 132 (by decide)) (tm_mkI (n := 672) (by decide) (by decide)) e6 dX10_strainMore_39 (fun H locs hP hS => ?_)
    exact tm_vret C0 (Option.some.inj h) hP hS dX10_strainMore_40
  · rw [if_neg c4] at h
    refine lv_bipush (v := 99) hx hb dX10_strainMore_32 (by decide) ?_
    refine lv_goto (tgt := 39) hx hb dX10_strainMore_34 (by decide) ?_
    obtain ⟨M7, e8, h⟩ := tm_bd_some h
    refine tm_iast hx hb hK hP hD hS (hF 132 (by decide)) (tm_mkI (n := 672) (by decide) (by decide)) e8 dX10_strainMore_39 (fun H locs hP hS => ?_)
    exact tm_vret C0 (Option.some.inj h) hP hS dX10_strainMore_40
