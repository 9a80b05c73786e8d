/-! X10_couple -/
theorem nX10_couple_X10 : ∀ w ∈ wsX100, w ∈ wsX10_couple := by decide +kernel
theorem kX10_couple_0 : Cond.fieldLink RX10 29 "QuarrelDeskModel" "kinds" "[I" ∈ wsX10_couple := by decide +kernel
theorem kX10_couple_1 : Cond.fieldLink RX10 32 "QuarrelDeskModel" "tempers" "[I" ∈ wsX10_couple := by decide +kernel
theorem kX10_couple_2 : Cond.fieldLink RX10 22 "QuarrelDeskModel" "row" "[I" ∈ wsX10_couple := by decide +kernel
def f_X10_couple (M : tm_M) (p1 : Int32) (p2 : Int32) : Option Int32 :=
  (f_X10_isCouple M p1).bind fun r1 =>
  if r1 = 0 then
    some (-2)
  else
    if p2 = 0 then
      (tm_rd M 134 6 p1).bind fun x5 =>
      some x5
    else
      if p2 = 1 then
        (tm_rd M 135 6 p1).bind fun x8 =>
        some x8
      else
        if p2 = 2 then
          (tm_rd M 132 672 (7 + p1)).bind fun x11 =>
          some x11
        else
          if p2 = 3 then
            (tm_rd M 132 672 (13 + p1)).bind fun x14 =>
            some x14
          else
            if p2 = 4 then
              (tm_rd M 132 672 19).bind fun x17 =>
              some ((x17 >>> (p1 &&& 31)) &&& 1)
            else
              if p2 = 5 then
                (tm_rd M 132 672 (20 + p1)).bind fun x20 =>
                some x20
              else
                if p2 = 6 then
                  (tm_rd M 132 672 (26 + p1)).bind fun x23 =>
                  some x23
                else
                  if p2 = 7 then
                    (tm_rd M 132 672 (32 + p1)).bind fun x26 =>
                    some x26
                  else
                    if p2 = 8 then
                      (tm_rd M 132 672 (38 + p1)).bind fun x29 =>
                      some x29
                    else
                      if p2 = 9 then
                        (tm_rd M 132 672 (44 + p1)).bind fun x32 =>
                        some x32
                      else
                        some (-3)
set_option maxHeartbeats 4000000 in
set_option maxRecDepth 100000 in
theorem c_X10_couple (l : Launch) (g : tm_G) (A : Nat → Prop) (L : List Nat) (hD : ∀ M, va_D A (tm_ws g L M)) (hF : ∀ o, tm_all o → o ∈ L) (M : tm_M) (p1 : Int32) (p2 : Int32) (r0 : Int32) (h : f_X10_couple M p1 p2 = some r0) : Met l yX10_couple wsX10_couple { frames := 2, cells := 0, slots := 0, locals := 43 } (tm_PC g A L M [.ref (g.2.2 + 127), .int p1, .int p2]) (tm_QI g A L (r0, M)) 0 0 A := by
  refine tm_start (cc := cX10_couple) (nL := 3) (ret := (some .int)) (F := tm_all) (plainFor_of_name (by decide)) rfl (Nat.le_of_ble_eq_true rfl) hD hF (fun p e s m args below meth c ls C0 hP hS hl => ?_)
  have hl : lv_has ls 3 [(0, .ref (g.2.2 + 127)), (1, .int p1), (2, .int p2)] := hl
  have C0 : tm_C p m c cX10_couple 3 s args wsX10_couple RX10 meth (some .int) g A L tm_all := C0
  obtain ⟨⟨hx, hb, hml, hown, hts⟩, hr, hlk, hK, hD, hG, hF⟩ := id C0
  unfold f_X10_couple at h
  refine lv_aload_n hx hb dX10_couple_0 rfl (lv_at hl 0 rfl) ?_
  refine lv_iload_n hx hb dX10_couple_1 rfl (lv_at hl 1 rfl) ?_
  obtain ⟨r1, e2, h⟩ := tm_bd_some h
  refine tm_backI (r0 := r1) (M0 := M) (fun _ q => q) (tm_callV (As := [.int p1]) (rest := []) ⟨hx, hb, hml, hown, hts⟩ hK hG hP hS (c_X10_isCouple l g A L hD hF M p1 r1 e2) (cwV 1 hts gX10_couple_X10_isCouple rfl rfl rfl (by decide +kernel) ⟨Nat.le_of_ble_eq_true rfl, Nat.le_of_ble_eq_true rfl⟩) (tm_recv hK hP (hF 127 (by decide)) (ci := 9) rfl (tm_mkX10 (by decide) _)) rfl hl.1 (lv_room (Nat.le_of_ble_eq_true rfl)) dX10_couple_2 ⟨Nat.zero_le _, Nat.zero_le _⟩) hS (fun H locs hP hS => ?_)
  refine lv_if_ne (tgt := 11) hx hb dX10_couple_5 (by decide) (fun c3 => ?_) (fun c3 => ?_)
  · rw [if_neg c3] at h
    refine lv_iload_n hx hb dX10_couple_11 rfl (lv_at hl 2 rfl) ?_
    by_cases c4 : p2 = 0
    · rw [if_pos c4] at h
      refine lv_tableIn (tgt := 68) (off := 56) hx hb dX10_couple_12 (by rw [c4]; decide) (by rw [c4]; decide) (by rw [c4]; decide) (by decide) ?_
      refine lv_aload_n hx hb dX10_couple_68 rfl (lv_at hl 0 rfl) ?_
      refine tm_get (C := RX10) (T := TX10) (N := 23) (v := .ref (g.2.2 + 134)) hx hb hts nX10_couple_X10 hown hK hP (hF 127 (by decide)) (tm_mkX10 (by decide) _) rfl 8 (by decide) (hts _ kX10_couple_0) rfl dX10_couple_69 ?_
      refine lv_iload_n hx hb dX10_couple_72 rfl (lv_at hl 1 rfl) ?_
      obtain ⟨x5, e6, h⟩ := tm_bd_some h
      refine tm_iald hx hb hK hP (hF 134 (by decide)) (tm_mkI (n := 6) (by decide) (by decide)) e6 dX10_couple_73 ?_
      exact tm_iret C0 (by rw [Option.some.inj h]) hP hS dX10_couple_74
    · rw [if_neg c4] at h
      by_cases c7 : p2 = 1
      · rw [if_pos c7] at h
        refine lv_tableIn (tgt := 75) (off := 63) hx hb dX10_couple_12 (by rw [c7]; decide) (by rw [c7]; decide) (by rw [c7]; decide) (by decide) ?_
        refine lv_aload_n hx hb dX10_couple_75 rfl (lv_at hl 0 rfl) ?_
        refine tm_get (C := RX10) (T := TX10) (N := 23) (v := .ref (g.2.2 + 135)) hx hb hts nX10_couple_X10 hown hK hP (hF 127 (by decide)) (tm_mkX10 (by decide) _) rfl 9 (by decide) (hts _ kX10_couple_1) rfl dX10_couple_76 ?_
        refine lv_iload_n hx hb dX10_couple_79 rfl (lv_at hl 1 rfl) ?_
        obtain ⟨x8, e9, h⟩ := tm_bd_some h
        refine tm_iald hx hb hK hP (hF 135 (by decide)) (tm_mkI (n := 6) (by decide) (by decide)) e9 dX10_couple_80 ?_
        exact tm_iret C0 (by rw [Option.some.inj h]) hP hS dX10_couple_81
      · rw [if_neg c7] at h
        by_cases c10 : p2 = 2
        · rw [if_pos c10] at h
          refine lv_tableIn (tgt := 82) (off := 70) hx hb dX10_couple_12 (by rw [c10]; decide) (by rw [c10]; decide) (by rw [c10]; decide) (by decide) ?_
          refine lv_aload_n hx hb dX10_couple_82 rfl (lv_at hl 0 rfl) ?_
          refine tm_get (C := RX10) (T := TX10) (N := 23) (v := .ref (g.2.2 + 132)) hx hb hts nX10_couple_X10 hown hK hP (hF 127 (by decide)) (tm_mkX10 (by decide) _) rfl 4 (by decide) (hts _ kX10_couple_2) rfl dX10_couple_83 ?_
          refine lv_bipush (v := 7) hx hb dX10_couple_86 (by decide) ?_
          refine lv_iload_n hx hb dX10_couple_88 rfl (lv_at hl 1 rfl) ?_
          refine lv_iadd hx hb dX10_couple_89 ?_
          obtain ⟨x11, e12, h⟩ := tm_bd_some h
          refine tm_iald hx hb hK hP (hF 132 (by decide)) (tm_mkI (n := 672) (by decide) (by decide)) e12 dX10_couple_90 ?_
          exact tm_iret C0 (by rw [Option.some.inj h]) hP hS dX10_couple_91
        · rw [if_neg c10] at h
          by_cases c13 : p2 = 3
          · rw [if_pos c13] at h
            refine lv_tableIn (tgt := 92) (off := 80) hx hb dX10_couple_12 (by rw [c13]; decide) (by rw [c13]; decide) (by rw [c13]; decide) (by decide) ?_
            refine lv_aload_n hx hb dX10_couple_92 rfl (lv_at hl 0 rfl) ?_
            refine tm_get (C := RX10) (T := TX10) (N := 23) (v := .ref (g.2.2 + 132)) hx hb hts nX10_couple_X10 hown hK hP (hF 127 (by decide)) (tm_mkX10 (by decide) _) rfl 4 (by decide) (hts _ kX10_couple_2) rfl dX10_couple_93 ?_
            refine lv_bipush (v := 13) hx hb dX10_couple_96 (by decide) ?_
            refine lv_iload_n hx hb dX10_couple_98 rfl (lv_at hl 1 rfl) ?_
            refine lv_iadd hx hb dX10_couple_99 ?_
            obtain ⟨x14, e15, h⟩ := tm_bd_some h
            refine tm_iald hx hb hK hP (hF 132 (by decide)) (tm_mkI (n := 672) (by decide) (by decide)) e15 dX10_couple_100 ?_
            exact tm_iret C0 (by rw [Option.some.inj h]) hP hS dX10_couple_101
          · rw [if_neg c13] at h
            by_cases c16 : p2 = 4
            · rw [if_pos c16] at h
              refine lv_tableIn (tgt := 102) (off := 90) hx hb dX10_couple_12 (by rw [c16]; decide) (by rw [c16]; decide) (by rw [c16]; decide) (by decide) ?_
              refine lv_aload_n hx hb dX10_couple_102 rfl (lv_at hl 0 rfl) ?_
              refine tm_get (C := RX10) (T := TX10) (N := 23) (v := .ref (g.2.2 + 132)) hx hb hts nX10_couple_X10 hown hK hP (hF 127 (by decide)) (tm_mkX10 (by decide) _) rfl 4 (by decide) (hts _ kX10_couple_2) rfl dX10_couple_103 ?_
              refine lv_bipush (v := 19) hx hb dX10_couple_106 (by decide) ?_
              obtain ⟨x17, e18, h⟩ := tm_bd_some h
              refine tm_iald hx hb hK hP (hF 132 (by decide)) (tm_mkI (n := 672) (by decide) (by decide)) e18 dX10_couple_108 ?_
              refine lv_iload_n hx hb dX10_couple_109 rfl (lv_at hl 1 rfl) ?_
              refine lv_ishr hx hb dX10_couple_110 ?_
              refine lv_iconst (v := 1) hx hb dX10_couple_111 (by decide) ?_
              refine lv_iand hx hb dX10_couple_112 ?_
              exact tm_iret C0 (by rw [Option.some.inj h]) hP hS dX10_couple_113
            · rw [if_neg c16] at h
              by_cases c19 : p2 = 5
              · rw [if_pos c19] at h
                refine lv_tableIn (tgt := 114) (off := 102) hx hb dX10_couple_12 (by rw [c19]; decide) (by rw [c19]; decide) (by rw [c19]; decide) (by decide) ?_
                refine lv_aload_n hx hb dX10_couple_114 rfl (lv_at hl 0 rfl) ?_
                refine tm_get (C := RX10) (T := TX10) (N := 23) (v := .ref (g.2.2 + 132)) hx hb hts nX10_couple_X10 hown hK hP (hF 127 (by decide)) (tm_mkX10 (by decide) _) rfl 4 (by decide) (hts _ kX10_couple_2) rfl dX10_couple_115 ?_
                refine lv_bipush (v := 20) hx hb dX10_couple_118 (by decide) ?_
                refine lv_iload_n hx hb dX10_couple_120 rfl (lv_at hl 1 rfl) ?_
                refine lv_iadd hx hb dX10_couple_121 ?_
                obtain ⟨x20, e21, h⟩ := tm_bd_some h
                refine tm_iald hx hb hK hP (hF 132 (by decide)) (tm_mkI (n := 672) (by decide) (by decide)) e21 dX10_couple_122 ?_
                exact tm_iret C0 (by rw [Option.some.inj h]) hP hS dX10_couple_123
              · rw [if_neg c19] at h
                by_cases c22 : p2 = 6
                · rw [if_pos c22] at h
                  refine lv_tableIn (tgt := 124) (off := 112) hx hb dX10_couple_12 (by rw [c22]; decide) (by rw [c22]; decide) (by rw [c22]; decide) (by decide) ?_
                  refine lv_aload_n hx hb dX10_couple_124 rfl (lv_at hl 0 rfl) ?_
                  refine tm_get (C := RX10) (T := TX10) (N := 23) (v := .ref (g.2.2 + 132)) hx hb hts nX10_couple_X10 hown hK hP (hF 127 (by decide)) (tm_mkX10 (by decide) _) rfl 4 (by decide) (hts _ kX10_couple_2) rfl dX10_couple_125 ?_
                  refine lv_bipush (v := 26) hx hb dX10_couple_128 (by decide) ?_
                  refine lv_iload_n hx hb dX10_couple_130 rfl (lv_at hl 1 rfl) ?_
                  refine lv_iadd hx hb dX10_couple_131 ?_
                  obtain ⟨x23, e24, h⟩ := tm_bd_some h
                  refine tm_iald hx hb hK hP (hF 132 (by decide)) (tm_mkI (n := 672) (by decide) (by decide)) e24 dX10_couple_132 ?_
                  exact tm_iret C0 (by rw [Option.some.inj h]) hP hS dX10_couple_133
                · rw [if_neg c22] at h
                  by_cases c25 : p2 = 7
                  · rw [if_pos c25] at h
                    refine lv_tableIn (tgt := 134) (off := 122) hx hb dX10_couple_12 (by rw [c25]; decide) (by rw [c25]; decide) (by rw [c25]; decide) (by decide) ?_
                    refine lv_aload_n hx hb dX10_couple_134 rfl (lv_at hl 0 rfl) ?_
                    refine tm_get (C := RX10) (T := TX10) (N := 23) (v := .ref (g.2.2 + 132)) hx hb hts nX10_couple_X10 hown hK hP (hF 127 (by decide)) (tm_mkX10 (by decide) _) rfl 4 (by decide) (hts _ kX10_couple_2) rfl dX10_couple_135 ?_
                    refine lv_bipush (v := 32) hx hb dX10_couple_138 (by decide) ?_
                    refine lv_iload_n hx hb dX10_couple_140 rfl (lv_at hl 1 rfl) ?_
                    refine lv_iadd hx hb dX10_couple_141 ?_
                    obtain ⟨x26, e27, h⟩ := tm_bd_some h
                    refine tm_iald hx hb hK hP (hF 132 (by decide)) (tm_mkI (n := 672) (by decide) (by decide)) e27 dX10_couple_142 ?_
                    exact tm_iret C0 (by rw [Option.some.inj h]) hP hS dX10_couple_143
                  · rw [if_neg c25] at h
                    by_cases c28 : p2 = 8
                    · rw [if_pos c28] at h
                      refine lv_tableIn (tgt := 144) (off := 132) hx hb dX10_couple_12 (by rw [c28]; decide) (by rw [c28]; decide) (by rw [c28]; decide) (by decide) ?_
                      refine lv_aload_n hx hb dX10_couple_144 rfl (lv_at hl 0 rfl) ?_
                      refine tm_get (C := RX10) (T := TX10) (N := 23) (v := .ref (g.2.2 + 132)) hx hb hts nX10_couple_X10 hown hK hP (hF 127 (by decide)) (tm_mkX10 (by decide) _) rfl 4 (by decide) (hts _ kX10_couple_2) rfl dX10_couple_145 ?_
                      refine lv_bipush (v := 38) hx hb dX10_couple_148 (by decide) ?_
                      refine lv_iload_n hx hb dX10_couple_150 rfl (lv_at hl 1 rfl) ?_
                      refine lv_iadd hx hb dX10_couple_151 ?_
                      obtain ⟨x29, e30, h⟩ := tm_bd_some h
                      refine tm_iald hx hb hK hP (hF 132 (by decide)) (tm_mkI (n := 672) (by decide) (by decide)) e30 dX10_couple_152 ?_
                      exact tm_iret C0 (by rw [Option.some.inj h]) hP hS dX10_couple_153
                    · rw [if_neg c28] at h
                      by_cases c31 : p2 = 9
                      · rw [if_pos c31] at h
                        refine lv_tableIn (tgt := 154) (off := 142) hx hb dX10_couple_12 (by rw [c31]; decide) (by rw [c31]; decide) (by rw [c31]; decide) (by decide) ?_
                        refine lv_aload_n hx hb dX10_couple_154 rfl (lv_at hl 0 rfl) ?_
                        refine tm_get (C := RX10) (T := TX10) (N := 23) (v := .ref (g.2.2 + 132)) hx hb hts nX10_couple_X10 hown hK hP (hF 127 (by decide)) (tm_mkX10 (by decide) _) rfl 4 (by decide) (hts _ kX10_couple_2) rfl dX10_couple_155 ?_
                        refine lv_bipush (v := 44) hx hb dX10_couple_158 (by decide) ?_
                        refine lv_iload_n hx hb dX10_couple_160 rfl (lv_at hl 1 rfl) ?_
                        refine lv_iadd hx hb dX10_couple_161 ?_
                        obtain ⟨x32, e33, h⟩ := tm_bd_some h
                        refine tm_iald hx hb hK hP (hF 132 (by decide)) (tm_mkI (n := 672) (by decide) (by decide)) e33 dX10_couple_162 ?_
                        exact tm_iret C0 (by rw [Option.some.inj h]) hP hS dX10_couple_163
                      · rw [if_neg c31] at h
                        have c4t := lv_neT (a := 0) c4 (by decide)
                        have c7t := lv_neT (a := 1) c7 (by decide)
                        have c10t := lv_neT (a := 2) c10 (by decide)
                        have c13t := lv_neT (a := 3) c13 (by decide)
                        have c16t := lv_neT (a := 4) c16 (by decide)
                        have c19t := lv_neT (a := 5) c19 (by decide)
                        have c22t := lv_neT (a := 6) c22 (by decide)
                        have c25t := lv_neT (a := 7) c25 (by decide)
                        have c28t := lv_neT (a := 8) c28 (by decide)
                        have c31t := lv_neT (a := 9) c31 (by decide)
                        refine lv_tableOut (tgt := 164) hx hb dX10_couple_12 (by omega) (by decide) ?_
                        refine lv_bipush (v := (-3)) hx hb dX10_couple_164 (by decide) ?_
                        exact tm_iret C0 (by rw [Option.some.inj h]) hP hS dX10_couple_166
  · rw [if_pos c3] at h
    refine lv_bipush (v := (-2)) hx hb dX10_couple_8 (by decide) ?_
    exact tm_iret C0 (by rw [Option.some.inj h]) hP hS dX10_couple_10
/-! X10_as -/
theorem nX10_as_X10 : ∀ w ∈ wsX100, w ∈ wsX10_as := by decide +kernel
theorem kX10_as_0 : Cond.fieldLink RX10 29 "QuarrelDeskModel" "kinds" "[I" ∈ wsX10_as := by decide +kernel
def f_X10_as (M : tm_M) (p1 : Int32) (p2 : Int32) : Option Int32 :=
  (f_X10_isCouple M p1).bind fun r1 =>
  if r1 = 0 then
    some (-2)
  else
    (f_X10_in p2 0 4).bind fun r4 =>
    if r4 = 0 then
      some (-3)
    else
      if p2 = 0 then
        (f_X10_gainOf M 0 p1).bind fun r9 =>
        some r9
      else
        if p2 = 4 then
          (tm_rd M 134 6 p1).bind fun x69 =>
          if x69 = 3 then
            (f_X10_gainOf M 0 p1).bind fun r73 =>
            some r73
          else
            if p2 = 1 then
              (tm_rd M 134 6 p1).bind fun x101 =>
              if x101 = 3 then
                if p2 = 2 then
                  (tm_rd M 134 6 p1).bind fun x117 =>
                  if x117 = 1 then
                    (f_X10_gainOf M 0 p1).bind fun r121 =>
                    some r121
                  else
                    if p2 = 3 then
                      (tm_rd M 134 6 p1).bind fun x125 =>
                      if x125 = 2 then
                        (f_X10_gainOf M 0 p1).bind fun r130 =>
                        some r130
                      else
                        some (-4)
                    else
                      some (-4)
                else
                  if p2 = 3 then
                    (tm_rd M 134 6 p1).bind fun x110 =>
                    if x110 = 2 then
                      (f_X10_gainOf M 0 p1).bind fun r115 =>
                      some r115
                    else
                      some (-4)
                  else
                    some (-4)
              else
                (f_X10_gainOf M 0 p1).bind fun r105 =>
                some r105
            else
              if p2 = 2 then
                (tm_rd M 134 6 p1).bind fun x86 =>
                if x86 = 1 then
                  (f_X10_gainOf M 0 p1).bind fun r90 =>
                  some r90
                else
                  if p2 = 3 then
                    (tm_rd M 134 6 p1).bind fun x94 =>
                    if x94 = 2 then
                      (f_X10_gainOf M 0 p1).bind fun r99 =>
                      some r99
                    else
                      some (-4)
                  else
                    some (-4)
              else
                if p2 = 3 then
                  (tm_rd M 134 6 p1).bind fun x79 =>
                  if x79 = 2 then
                    (f_X10_gainOf M 0 p1).bind fun r84 =>
                    some r84
                  else
                    some (-4)
                else
                  some (-4)
        else
          if p2 = 1 then
            (tm_rd M 134 6 p1).bind fun x38 =>
            if x38 = 3 then
              if p2 = 2 then
                (tm_rd M 134 6 p1).bind fun x54 =>
                if x54 = 1 then
                  (f_X10_gainOf M 0 p1).bind fun r58 =>
                  some r58
                else
                  if p2 = 3 then
                    (tm_rd M 134 6 p1).bind fun x62 =>
                    if x62 = 2 then
                      (f_X10_gainOf M 0 p1).bind fun r67 =>
                      some r67
                    else
                      some (-4)
                  else
                    some (-4)
              else
                if p2 = 3 then
                  (tm_rd M 134 6 p1).bind fun x47 =>
                  if x47 = 2 then
                    (f_X10_gainOf M 0 p1).bind fun r52 =>
                    some r52
                  else
                    some (-4)
                else
                  some (-4)
            else
              (f_X10_gainOf M 0 p1).bind fun r42 =>
              some r42
          else
            if p2 = 2 then
              (tm_rd M 134 6 p1).bind fun x23 =>
              if x23 = 1 then
                (f_X10_gainOf M 0 p1).bind fun r27 =>
                some r27
              else
                if p2 = 3 then
                  (tm_rd M 134 6 p1).bind fun x31 =>
                  if x31 = 2 then
                    (f_X10_gainOf M 0 p1).bind fun r36 =>
                    some r36
                  else
                    some (-4)
                else
                  some (-4)
            else
              if p2 = 3 then
                (tm_rd M 134 6 p1).bind fun x16 =>
                if x16 = 2 then
                  (f_X10_gainOf M 0 p1).bind fun r21 =>
                  some r21
                else
                  some (-4)
              else
                some (-4)
set_option maxHeartbeats 4000000 in
set_option maxRecDepth 100000 in
theorem c_X10_as (l : Launch) (g : tm_G) (A : Nat → Prop) (L : List Nat) (hD : ∀ M, va_D A (tm_ws g L M)) (hF : ∀ o, tm_all o → o ∈ L) (M : tm_M) (p1 : Int32) (p2 : Int32) (r0 : Int32) (h : f_X10_as M p1 p2 = some r0) : Met l yX10_as wsX10_as { frames := 2, cells := 0, slots := 0, locals := 43 } (tm_PC g A L M [.ref (g.2.2 + 127), .int p1, .int p2]) (tm_QI g A L (r0, M)) 0 0 A := by
  refine tm_start (cc := cX10_as) (nL := 4) (ret := (some .int)) (F := tm_all) (plainFor_of_name (by decide)) rfl (Nat.le_of_ble_eq_true rfl) hD hF (fun p e s m args below meth c ls C0 hP hS hl => ?_)
  have hl : lv_has ls 4 [(0, .ref (g.2.2 + 127)), (1, .int p1), (2, .int p2)] := hl
  have C0 : tm_C p m c cX10_as 4 s args wsX10_as RX10 meth (some .int) g A L tm_all := C0
  obtain ⟨⟨hx, hb, hml, hown, hts⟩, hr, hlk, hK, hD, hG, hF⟩ := id C0
  unfold f_X10_as at h
  refine lv_aload_n hx hb dX10_as_0 rfl (lv_at hl 0 rfl) ?_
  refine lv_iload_n hx hb dX10_as_1 rfl (lv_at hl 1 rfl) ?_
  obtain ⟨r1, e2, h⟩ := tm_bd_some h
  refine tm_backI (r0 := r1) (M0 := M) (fun _ q => q) (tm_callV (As := [.int p1]) (rest := []) ⟨hx, hb, hml, hown, hts⟩ hK hG hP hS (c_X10_isCouple l g A L hD hF M p1 r1 e2) (cwV 1 hts gX10_as_X10_isCouple rfl rfl rfl (by decide +kernel) ⟨Nat.le_of_ble_eq_true rfl, Nat.le_of_ble_eq_true rfl⟩) (tm_recv hK hP (hF 127 (by decide)) (ci := 9) rfl (tm_mkX10 (by decide) _)) rfl hl.1 (lv_room (Nat.le_of_ble_eq_true rfl)) dX10_as_2 ⟨Nat.zero_le _, Nat.zero_le _⟩) hS (fun H locs hP hS => ?_)
  refine lv_if_ne (tgt := 11) hx hb dX10_as_5 (by decide) (fun c3 => ?_) (fun c3 => ?_)
  · rw [if_neg c3] at h
    refine lv_iload_n hx hb dX10_as_11 rfl (lv_at hl 2 rfl) ?_
    refine lv_iconst (v := 0) hx hb dX10_as_12 (by decide) ?_
    refine lv_iconst (v := 4) hx hb dX10_as_13 (by decide) ?_
    obtain ⟨r4, e5, h⟩ := tm_bd_some h
    refine tm_backI (r0 := r4) (M0 := M) (fun _ q => q) (tm_callS (As := [.int p2, .int 0, .int 4]) (rest := []) ⟨hx, hb, hml, hown, hts⟩ hK hG hP hS (c_X10_in l g A L hD hF M p2 0 4 r4 e5) (va_cwS 3 hts gX10_as_X10_in rfl rfl rfl (by decide +kernel) ⟨Nat.le_of_ble_eq_true rfl, Nat.le_of_ble_eq_true rfl⟩) rfl hl.1 (lv_room (Nat.le_of_ble_eq_true rfl)) dX10_as_14 ⟨Nat.zero_le _, Nat.zero_le _⟩) hS (fun H locs hP hS => ?_)
    refine lv_if_ne (tgt := 23) hx hb dX10_as_17 (by decide) (fun c6 => ?_) (fun c6 => ?_)
    · rw [if_neg c6] at h
      refine lv_iload_n hx hb dX10_as_23 rfl (lv_at hl 2 rfl) ?_
      refine lv_if_eq (tgt := 87) hx hb dX10_as_24 (by decide) (fun c7 => ?_) (fun c7 => ?_)
      · rw [if_pos c7] at h
        refine lv_iconst (v := 1) hx hb dX10_as_87 (by decide) ?_
        refine lv_goto (tgt := 92) hx hb dX10_as_88 (by decide) ?_
        refine lv_istore_n (lv' := [(3, .int 1), (0, .ref (g.2.2 + 127)), (1, .int p1), (2, .int p2)]) hx hb dX10_as_92 rfl hl (by decide) rfl (fun ls hl => ?_)
        refine lv_iload_n hx hb dX10_as_93 rfl (lv_at hl 0 rfl) ?_
        refine lv_if_eq (tgt := 106) hx hb dX10_as_94 (by decide) (fun c8 => absurd c8 (by decide)) (fun _ => ?_)
        refine lv_aload_n hx hb dX10_as_97 rfl (lv_at hl 1 rfl) ?_
        refine lv_iconst (v := 0) hx hb dX10_as_98 (by decide) ?_
        refine lv_iload_n hx hb dX10_as_99 rfl (lv_at hl 2 rfl) ?_
        obtain ⟨r9, e10, h⟩ := tm_bd_some h
        refine tm_backI (r0 := r9) (M0 := M) (fun _ q => q) (tm_callV (As := [.int 0, .int p1]) (rest := []) ⟨hx, hb, hml, hown, hts⟩ hK hG hP hS (c_X10_gainOf l g A L hD hF M 0 p1 r9 e10) (cwV 2 hts gX10_as_X10_gainOf rfl rfl rfl (by decide +kernel) ⟨Nat.le_of_ble_eq_true rfl, Nat.le_of_ble_eq_true rfl⟩) (tm_recv hK hP (hF 127 (by decide)) (ci := 9) rfl (tm_mkX10 (by decide) _)) rfl hl.1 (lv_room (Nat.le_of_ble_eq_true rfl)) dX10_as_100 ⟨Nat.zero_le _, Nat.zero_le _⟩) hS (fun H locs hP hS => ?_)
        refine lv_goto (tgt := 108) hx hb dX10_as_103 (by decide) ?_
        exact tm_iret C0 (by rw [Option.some.inj h]) hP hS dX10_as_108
      · rw [if_neg c7] at h
        refine lv_iload_n hx hb dX10_as_27 rfl (lv_at hl 2 rfl) ?_
        refine lv_iconst (v := 4) hx hb dX10_as_28 (by decide) ?_
        refine lv_icmp_ne (tgt := 42) hx hb dX10_as_29 (by decide) (fun c11 => ?_) (fun c11 => ?_)
        · rw [if_neg c11] at h
          refine lv_iload_n hx hb dX10_as_42 rfl (lv_at hl 2 rfl) ?_
          refine lv_iconst (v := 1) hx hb dX10_as_43 (by decide) ?_
          refine lv_icmp_ne (tgt := 57) hx hb dX10_as_44 (by decide) (fun c12 => ?_) (fun c12 => ?_)
          · rw [if_neg c12] at h
            refine lv_iload_n hx hb dX10_as_57 rfl (lv_at hl 2 rfl) ?_
            refine lv_iconst (v := 2) hx hb dX10_as_58 (by decide) ?_
            refine lv_icmp_ne (tgt := 72) hx hb dX10_as_59 (by decide) (fun c13 => ?_) (fun c13 => ?_)
            · rw [if_neg c13] at h
              refine lv_iload_n hx hb dX10_as_72 rfl (lv_at hl 2 rfl) ?_
              refine lv_iconst (v := 3) hx hb dX10_as_73 (by decide) ?_
              refine lv_icmp_ne (tgt := 91) hx hb dX10_as_74 (by decide) (fun c14 => ?_) (fun c14 => ?_)
              · rw [if_neg c14] at h
                refine lv_iconst (v := 0) hx hb dX10_as_91 (by decide) ?_
                refine lv_istore_n (lv' := [(3, .int 0), (0, .ref (g.2.2 + 127)), (1, .int p1), (2, .int p2)]) hx hb dX10_as_92 rfl hl (by decide) rfl (fun ls hl => ?_)
                refine lv_iload_n hx hb dX10_as_93 rfl (lv_at hl 0 rfl) ?_
                refine lv_if_eq (tgt := 106) hx hb dX10_as_94 (by decide) (fun _ => ?_) (fun c15 => absurd (by decide) c15)
                refine lv_bipush (v := (-4)) hx hb dX10_as_106 (by decide) ?_
                exact tm_iret C0 (by rw [Option.some.inj h]) hP hS dX10_as_108
              · rw [if_pos c14] at h
                refine lv_aload_n hx hb dX10_as_77 rfl (lv_at hl 0 rfl) ?_
                refine tm_get (C := RX10) (T := TX10) (N := 23) (v := .ref (g.2.2 + 134)) hx hb hts nX10_as_X10 hown hK hP (hF 127 (by decide)) (tm_mkX10 (by decide) _) rfl 8 (by decide) (hts _ kX10_as_0) rfl dX10_as_78 ?_
                refine lv_iload_n hx hb dX10_as_81 rfl (lv_at hl 1 rfl) ?_
                obtain ⟨x16, e17, h⟩ := tm_bd_some h
                refine tm_iald hx hb hK hP (hF 134 (by decide)) (tm_mkI (n := 6) (by decide) (by decide)) e17 dX10_as_82 ?_
                refine lv_iconst (v := 2) hx hb dX10_as_83 (by decide) ?_
                refine lv_icmp_ne (tgt := 91) hx hb dX10_as_84 (by decide) (fun c18 => ?_) (fun c18 => ?_)
                · rw [if_neg c18] at h
                  refine lv_iconst (v := 0) hx hb dX10_as_91 (by decide) ?_
                  refine lv_istore_n (lv' := [(3, .int 0), (0, .ref (g.2.2 + 127)), (1, .int p1), (2, .int p2)]) hx hb dX10_as_92 rfl hl (by decide) rfl (fun ls hl => ?_)
                  refine lv_iload_n hx hb dX10_as_93 rfl (lv_at hl 0 rfl) ?_
                  refine lv_if_eq (tgt := 106) hx hb dX10_as_94 (by decide) (fun _ => ?_) (fun c19 => absurd (by decide) c19)
                  refine lv_bipush (v := (-4)) hx hb dX10_as_106 (by decide) ?_
                  exact tm_iret C0 (by rw [Option.some.inj h]) hP hS dX10_as_108
                · rw [if_pos c18] at h
                  refine lv_iconst (v := 1) hx hb dX10_as_87 (by decide) ?_
                  refine lv_goto (tgt := 92) hx hb dX10_as_88 (by decide) ?_
                  refine lv_istore_n (lv' := [(3, .int 1), (0, .ref (g.2.2 + 127)), (1, .int p1), (2, .int p2)]) hx hb dX10_as_92 rfl hl (by decide) rfl (fun ls hl => ?_)
                  refine lv_iload_n hx hb dX10_as_93 rfl (lv_at hl 0 rfl) ?_
                  refine lv_if_eq (tgt := 106) hx hb dX10_as_94 (by decide) (fun c20 => absurd c20 (by decide)) (fun _ => ?_)
                  refine lv_aload_n hx hb dX10_as_97 rfl (lv_at hl 1 rfl) ?_
                  refine lv_iconst (v := 0) hx hb dX10_as_98 (by decide) ?_
                  refine lv_iload_n hx hb dX10_as_99 rfl (lv_at hl 2 rfl) ?_
                  obtain ⟨r21, e22, h⟩ := tm_bd_some h
                  refine tm_backI (r0 := r21) (M0 := M) (fun _ q => q) (tm_callV (As := [.int 0, .int p1]) (rest := []) ⟨hx, hb, hml, hown, hts⟩ hK hG hP hS (c_X10_gainOf l g A L hD hF M 0 p1 r21 e22) (cwV 2 hts gX10_as_X10_gainOf rfl rfl rfl (by decide +kernel) ⟨Nat.le_of_ble_eq_true rfl, Nat.le_of_ble_eq_true rfl⟩) (tm_recv hK hP (hF 127 (by decide)) (ci := 9) rfl (tm_mkX10 (by decide) _)) rfl hl.1 (lv_room (Nat.le_of_ble_eq_true rfl)) dX10_as_100 ⟨Nat.zero_le _, Nat.zero_le _⟩) hS (fun H locs hP hS => ?_)
                  refine lv_goto (tgt := 108) hx hb dX10_as_103 (by decide) ?_
                  exact tm_iret C0 (by rw [Option.some.inj h]) hP hS dX10_as_108
            · rw [if_pos c13] at h
              refine lv_aload_n hx hb dX10_as_62 rfl (lv_at hl 0 rfl) ?_
              refine tm_get (C := RX10) (T := TX10) (N := 23) (v := .ref (g.2.2 + 134)) hx hb hts nX10_as_X10 hown hK hP (hF 127 (by decide)) (tm_mkX10 (by decide) _) rfl 8 (by decide) (hts _ kX10_as_0) rfl dX10_as_63 ?_
              refine lv_iload_n hx hb dX10_as_66 rfl (lv_at hl 1 rfl) ?_
              obtain ⟨x23, e24, h⟩ := tm_bd_some h
              refine tm_iald hx hb hK hP (hF 134 (by decide)) (tm_mkI (n := 6) (by decide) (by decide)) e24 dX10_as_67 ?_
              refine lv_iconst (v := 1) hx hb dX10_as_68 (by decide) ?_
              refine lv_icmp_eq (tgt := 87) hx hb dX10_as_69 (by decide) (fun c25 => ?_) (fun c25 => ?_)
              · rw [if_pos c25] at h
                refine lv_iconst (v := 1) hx hb dX10_as_87 (by decide) ?_
                refine lv_goto (tgt := 92) hx hb dX10_as_88 (by decide) ?_
                refine lv_istore_n (lv' := [(3, .int 1), (0, .ref (g.2.2 + 127)), (1, .int p1), (2, .int p2)]) hx hb dX10_as_92 rfl hl (by decide) rfl (fun ls hl => ?_)
                refine lv_iload_n hx hb dX10_as_93 rfl (lv_at hl 0 rfl) ?_
                refine lv_if_eq (tgt := 106) hx hb dX10_as_94 (by decide) (fun c26 => absurd c26 (by decide)) (fun _ => ?_)
                refine lv_aload_n hx hb dX10_as_97 rfl (lv_at hl 1 rfl) ?_
                refine lv_iconst (v := 0) hx hb dX10_as_98 (by decide) ?_
                refine lv_iload_n hx hb dX10_as_99 rfl (lv_at hl 2 rfl) ?_
                obtain ⟨r27, e28, h⟩ := tm_bd_some h
                refine tm_backI (r0 := r27) (M0 := M) (fun _ q => q) (tm_callV (As := [.int 0, .int p1]) (rest := []) ⟨hx, hb, hml, hown, hts⟩ hK hG hP hS (c_X10_gainOf l g A L hD hF M 0 p1 r27 e28) (cwV 2 hts gX10_as_X10_gainOf rfl rfl rfl (by decide +kernel) ⟨Nat.le_of_ble_eq_true rfl, Nat.le_of_ble_eq_true rfl⟩) (tm_recv hK hP (hF 127 (by decide)) (ci := 9) rfl (tm_mkX10 (by decide) _)) rfl hl.1 (lv_room (Nat.le_of_ble_eq_true rfl)) dX10_as_100 ⟨Nat.zero_le _, Nat.zero_le _⟩) hS (fun H locs hP hS => ?_)
                refine lv_goto (tgt := 108) hx hb dX10_as_103 (by decide) ?_
                exact tm_iret C0 (by rw [Option.some.inj h]) hP hS dX10_as_108
              · rw [if_neg c25] at h
                refine lv_iload_n hx hb dX10_as_72 rfl (lv_at hl 2 rfl) ?_
                refine lv_iconst (v := 3) hx hb dX10_as_73 (by decide) ?_
                refine lv_icmp_ne (tgt := 91) hx hb dX10_as_74 (by decide) (fun c29 => ?_) (fun c29 => ?_)
                · rw [if_neg c29] at h
                  refine lv_iconst (v := 0) hx hb dX10_as_91 (by decide) ?_
                  refine lv_istore_n (lv' := [(3, .int 0), (0, .ref (g.2.2 + 127)), (1, .int p1), (2, .int p2)]) hx hb dX10_as_92 rfl hl (by decide) rfl (fun ls hl => ?_)
                  refine lv_iload_n hx hb dX10_as_93 rfl (lv_at hl 0 rfl) ?_
                  refine lv_if_eq (tgt := 106) hx hb dX10_as_94 (by decide) (fun _ => ?_) (fun c30 => absurd (by decide) c30)
                  refine lv_bipush (v := (-4)) hx hb dX10_as_106 (by decide) ?_
                  exact tm_iret C0 (by rw [Option.some.inj h]) hP hS dX10_as_108
                · rw [if_pos c29] at h
                  refine lv_aload_n hx hb dX10_as_77 rfl (lv_at hl 0 rfl) ?_
                  refine tm_get (C := RX10) (T := TX10) (N := 23) (v := .ref (g.2.2 + 134)) hx hb hts nX10_as_X10 hown hK hP (hF 127 (by decide)) (tm_mkX10 (by decide) _) rfl 8 (by decide) (hts _ kX10_as_0) rfl dX10_as_78 ?_
                  refine lv_iload_n hx hb dX10_as_81 rfl (lv_at hl 1 rfl) ?_
                  obtain ⟨x31, e32, h⟩ := tm_bd_some h
                  refine tm_iald hx hb hK hP (hF 134 (by decide)) (tm_mkI (n := 6) (by decide) (by decide)) e32 dX10_as_82 ?_
                  refine lv_iconst (v := 2) hx hb dX10_as_83 (by decide) ?_
                  refine lv_icmp_ne (tgt := 91) hx hb dX10_as_84 (by decide) (fun c33 => ?_) (fun c33 => ?_)
                  · rw [if_neg c33] at h
                    refine lv_iconst (v := 0) hx hb dX10_as_91 (by decide) ?_
                    refine lv_istore_n (lv' := [(3, .int 0), (0, .ref (g.2.2 + 127)), (1, .int p1), (2, .int p2)]) hx hb dX10_as_92 rfl hl (by decide) rfl (fun ls hl => ?_)
                    refine lv_iload_n hx hb dX10_as_93 rfl (lv_at hl 0 rfl) ?_
                    refine lv_if_eq (tgt := 106) hx hb dX10_as_94 (by decide) (fun _ => ?_) (fun c34 => absurd (by decide) c34)
                    refine lv_bipush (v := (-4)) hx hb dX10_as_106 (by decide) ?_
                    exact tm_iret C0 (by rw [Option.some.inj h]) hP hS dX10_as_108
                  · rw [if_pos c33] at h
                    refine lv_iconst (v := 1) hx hb dX10_as_87 (by decide) ?_
                    refine lv_goto (tgt := 92) hx hb dX10_as_88 (by decide) ?_
                    refine lv_istore_n (lv' := [(3, .int 1), (0, .ref (g.2.2 + 127)), (1, .int p1), (2, .int p2)]) hx hb dX10_as_92 rfl hl (by decide) rfl (fun ls hl => ?_)
                    refine lv_iload_n hx hb dX10_as_93 rfl (lv_at hl 0 rfl) ?_
                    refine lv_if_eq (tgt := 106) hx hb dX10_as_94 (by decide) (fun c35 => absurd c35 (by decide)) (fun _ => ?_)
                    refine lv_aload_n hx hb dX10_as_97 rfl (lv_at hl 1 rfl) ?_
                    refine lv_iconst (v := 0) hx hb dX10_as_98 (by decide) ?_
                    refine lv_iload_n hx hb dX10_as_99 rfl (lv_at hl 2 rfl) ?_
                    obtain ⟨r36, e37, h⟩ := tm_bd_some h
                    refine tm_backI (r0 := r36) (M0 := M) (fun _ q => q) (tm_callV (As := [.int 0, .int p1]) (rest := []) ⟨hx, hb, hml, hown, hts⟩ hK hG hP hS (c_X10_gainOf l g A L hD hF M 0 p1 r36 e37) (cwV 2 hts gX10_as_X10_gainOf rfl rfl rfl (by decide +kernel) ⟨Nat.le_of_ble_eq_true rfl, Nat.le_of_ble_eq_true rfl⟩) (tm_recv hK hP (hF 127 (by decide)) (ci := 9) rfl (tm_mkX10 (by decide) _)) rfl hl.1 (lv_room (Nat.le_of_ble_eq_true rfl)) dX10_as_100 ⟨Nat.zero_le _, Nat.zero_le _⟩) hS (fun H locs hP hS => ?_)
                    refine lv_goto (tgt := 108) hx hb dX10_as_103 (by decide) ?_
                    exact tm_iret C0 (by rw [Option.some.inj h]) hP hS dX10_as_108
          · rw [if_pos c12] at h
            refine lv_aload_n hx hb dX10_as_47 rfl (lv_at hl 0 rfl) ?_
            refine tm_get (C := RX10) (T := TX10) (N := 23) (v := .ref (g.2.2 + 134)) hx hb hts nX10_as_X10 hown hK hP (hF 127 (by decide)) (tm_mkX10 (by decide) _) rfl 8 (by decide) (hts _ kX10_as_0) rfl dX10_as_48 ?_
            refine lv_iload_n hx hb dX10_as_51 rfl (lv_at hl 1 rfl) ?_
            obtain ⟨x38, e39, h⟩ := tm_bd_some h
            refine tm_iald hx hb hK hP (hF 134 (by decide)) (tm_mkI (n := 6) (by decide) (by decide)) e39 dX10_as_52 ?_
            refine lv_iconst (v := 3) hx hb dX10_as_53 (by decide) ?_
            refine lv_icmp_ne (tgt := 87) hx hb dX10_as_54 (by decide) (fun c40 => ?_) (fun c40 => ?_)
            · rw [if_neg c40] at h
              refine lv_iconst (v := 1) hx hb dX10_as_87 (by decide) ?_
              refine lv_goto (tgt := 92) hx hb dX10_as_88 (by decide) ?_
              refine lv_istore_n (lv' := [(3, .int 1), (0, .ref (g.2.2 + 127)), (1, .int p1), (2, .int p2)]) hx hb dX10_as_92 rfl hl (by decide) rfl (fun ls hl => ?_)
              refine lv_iload_n hx hb dX10_as_93 rfl (lv_at hl 0 rfl) ?_
              refine lv_if_eq (tgt := 106) hx hb dX10_as_94 (by decide) (fun c41 => absurd c41 (by decide)) (fun _ => ?_)
              refine lv_aload_n hx hb dX10_as_97 rfl (lv_at hl 1 rfl) ?_
              refine lv_iconst (v := 0) hx hb dX10_as_98 (by decide) ?_
              refine lv_iload_n hx hb dX10_as_99 rfl (lv_at hl 2 rfl) ?_
              obtain ⟨r42, e43, h⟩ := tm_bd_some h
              refine tm_backI (r0 := r42) (M0 := M) (fun _ q => q) (tm_callV (As := [.int 0, .int p1]) (rest := []) ⟨hx, hb, hml, hown, hts⟩ hK hG hP hS (c_X10_gainOf l g A L hD hF M 0 p1 r42 e43) (cwV 2 hts gX10_as_X10_gainOf rfl rfl rfl (by decide +kernel) ⟨Nat.le_of_ble_eq_true rfl, Nat.le_of_ble_eq_true rfl⟩) (tm_recv hK hP (hF 127 (by decide)) (ci := 9) rfl (tm_mkX10 (by decide) _)) rfl hl.1 (lv_room (Nat.le_of_ble_eq_true rfl)) dX10_as_100 ⟨Nat.zero_le _, Nat.zero_le _⟩) hS (fun H locs hP hS => ?_)
              refine lv_goto (tgt := 108) hx hb dX10_as_103 (by decide) ?_
              exact tm_iret C0 (by rw [Option.some.inj h]) hP hS dX10_as_108
            · rw [if_pos c40] at h
              refine lv_iload_n hx hb dX10_as_57 rfl (lv_at hl 2 rfl) ?_
              refine lv_iconst (v := 2) hx hb dX10_as_58 (by decide) ?_
              refine lv_icmp_ne (tgt := 72) hx hb dX10_as_59 (by decide) (fun c44 => ?_) (fun c44 => ?_)
              · rw [if_neg c44] at h
                refine lv_iload_n hx hb dX10_as_72 rfl (lv_at hl 2 rfl) ?_
                refine lv_iconst (v := 3) hx hb dX10_as_73 (by decide) ?_
                refine lv_icmp_ne (tgt := 91) hx hb dX10_as_74 (by decide) (fun c45 => ?_) (fun c45 => ?_)
                · rw [if_neg c45] at h
                  refine lv_iconst (v := 0) hx hb dX10_as_91 (by decide) ?_
                  refine lv_istore_n (lv' := [(3, .int 0), (0, .ref (g.2.2 + 127)), (1, .int p1), (2, .int p2)]) hx hb dX10_as_92 rfl hl (by decide) rfl (fun ls hl => ?_)
                  refine lv_iload_n hx hb dX10_as_93 rfl (lv_at hl 0 rfl) ?_
                  refine lv_if_eq (tgt := 106) hx hb dX10_as_94 (by decide) (fun _ => ?_) (fun c46 => absurd (by decide) c46)
                  refine lv_bipush (v := (-4)) hx hb dX10_as_106 (by decide) ?_
                  exact tm_iret C0 (by rw [Option.some.inj h]) hP hS dX10_as_108
                · rw [if_pos c45] at h
                  refine lv_aload_n hx hb dX10_as_77 rfl (lv_at hl 0 rfl) ?_
                  refine tm_get (C := RX10) (T := TX10) (N := 23) (v := .ref (g.2.2 + 134)) hx hb hts nX10_as_X10 hown hK hP (hF 127 (by decide)) (tm_mkX10 (by decide) _) rfl 8 (by decide) (hts _ kX10_as_0) rfl dX10_as_78 ?_
                  refine lv_iload_n hx hb dX10_as_81 rfl (lv_at hl 1 rfl) ?_
                  obtain ⟨x47, e48, h⟩ := tm_bd_some h
                  refine tm_iald hx hb hK hP (hF 134 (by decide)) (tm_mkI (n := 6) (by decide) (by decide)) e48 dX10_as_82 ?_
                  refine lv_iconst (v := 2) hx hb dX10_as_83 (by decide) ?_
                  refine lv_icmp_ne (tgt := 91) hx hb dX10_as_84 (by decide) (fun c49 => ?_) (fun c49 => ?_)
                  · rw [if_neg c49] at h
                    refine lv_iconst (v := 0) hx hb dX10_as_91 (by decide) ?_
                    refine lv_istore_n (lv' := [(3, .int 0), (0, .ref (g.2.2 + 127)), (1, .int p1), (2, .int p2)]) hx hb dX10_as_92 rfl hl (by decide) rfl (fun ls hl => ?_)
                    refine lv_iload_n hx hb dX10_as_93 rfl (lv_at hl 0 rfl) ?_
                    refine lv_if_eq (tgt := 106) hx hb dX10_as_94 (by decide) (fun _ => ?_) (fun c50 => absurd (by decide) c50)
                    refine lv_bipush (v := (-4)) hx hb dX10_as_106 (by decide) ?_
                    exact tm_iret C0 (by rw [Option.some.inj h]) hP hS dX10_as_108
                  · rw [if_pos c49] at h
                    refine lv_iconst (v := 1) hx hb dX10_as_87 (by decide) ?_
                    refine lv_goto (tgt := 92) hx hb dX10_as_88 (by decide) ?_
                    refine lv_istore_n (lv' := [(3, .int 1), (0, .ref (g.2.2 + 127)), (1, .int p1), (2, .int p2)]) hx hb dX10_as_92 rfl hl (by decide) rfl (fun ls hl => ?_)
                    refine lv_iload_n hx hb dX10_as_93 rfl (lv_at hl 0 rfl) ?_
                    refine lv_if_eq (tgt := 106) hx hb dX10_as_94 (by decide) (fun c51 => absurd c51 (by decide)) (fun _ => ?_)
                    refine lv_aload_n hx hb dX10_as_97 rfl (lv_at hl 1 rfl) ?_
                    refine lv_iconst (v := 0) hx hb dX10_as_98 (by decide) ?_
                    refine lv_iload_n hx hb dX10_as_99 rfl (lv_at hl 2 rfl) ?_
                    obtain ⟨r52, e53, h⟩ := tm_bd_some h
                    refine tm_backI (r0 := r52) (M0 := M) (fun _ q => q) (tm_callV (As := [.int 0, .int p1]) (rest := []) ⟨hx, hb, hml, hown, hts⟩ hK hG hP hS (c_X10_gainOf l g A L hD hF M 0 p1 r52 e53) (cwV 2 hts gX10_as_X10_gainOf rfl rfl rfl (by decide +kernel) ⟨Nat.le_of_ble_eq_true rfl, Nat.le_of_ble_eq_true rfl⟩) (tm_recv hK hP (hF 127 (by decide)) (ci := 9) rfl (tm_mkX10 (by decide) _)) rfl hl.1 (lv_room (Nat.le_of_ble_eq_true rfl)) dX10_as_100 ⟨Nat.zero_le _, Nat.zero_le _⟩) hS (fun H locs hP hS => ?_)
                    refine lv_goto (tgt := 108) hx hb dX10_as_103 (by decide) ?_
                    exact tm_iret C0 (by rw [Option.some.inj h]) hP hS dX10_as_108
              · rw [if_pos c44] at h
                refine lv_aload_n hx hb dX10_as_62 rfl (lv_at hl 0 rfl) ?_
                refine tm_get (C := RX10) (T := TX10) (N := 23) (v := .ref (g.2.2 + 134)) hx hb hts nX10_as_X10 hown hK hP (hF 127 (by decide)) (tm_mkX10 (by decide) _) rfl 8 (by decide) (hts _ kX10_as_0) rfl dX10_as_63 ?_
                refine lv_iload_n hx hb dX10_as_66 rfl (lv_at hl 1 rfl) ?_
                obtain ⟨x54, e55, h⟩ := tm_bd_some h
                refine tm_iald hx hb hK hP (hF 134 (by decide)) (tm_mkI (n := 6) (by decide) (by decide)) e55 dX10_as_67 ?_
                refine lv_iconst (v := 1) hx hb dX10_as_68 (by decide) ?_
                refine lv_icmp_eq (tgt := 87) hx hb dX10_as_69 (by decide) (fun c56 => ?_) (fun c56 => ?_)
                · rw [if_pos c56] at h
                  refine lv_iconst (v := 1) hx hb dX10_as_87 (by decide) ?_
                  refine lv_goto (tgt := 92) hx hb dX10_as_88 (by decide) ?_
                  refine lv_istore_n (lv' := [(3, .int 1), (0, .ref (g.2.2 + 127)), (1, .int p1), (2, .int p2)]) hx hb dX10_as_92 rfl hl (by decide) rfl (fun ls hl => ?_)
                  refine lv_iload_n hx hb dX10_as_93 rfl (lv_at hl 0 rfl) ?_
                  refine lv_if_eq (tgt := 106) hx hb dX10_as_94 (by decide) (fun c57 => absurd c57 (by decide)) (fun _ => ?_)
                  refine lv_aload_n hx hb dX10_as_97 rfl (lv_at hl 1 rfl) ?_
                  refine lv_iconst (v := 0) hx hb dX10_as_98 (by decide) ?_
                  refine lv_iload_n hx hb dX10_as_99 rfl (lv_at hl 2 rfl) ?_
                  obtain ⟨r58, e59, h⟩ := tm_bd_some h
                  refine tm_backI (r0 := r58) (M0 := M) (fun _ q => q) (tm_callV (As := [.int 0, .int p1]) (rest := []) ⟨hx, hb, hml, hown, hts⟩ hK hG hP hS (c_X10_gainOf l g A L hD hF M 0 p1 r58 e59) (cwV 2 hts gX10_as_X10_gainOf rfl rfl rfl (by decide +kernel) ⟨Nat.le_of_ble_eq_true rfl, Nat.le_of_ble_eq_true rfl⟩) (tm_recv hK hP (hF 127 (by decide)) (ci := 9) rfl (tm_mkX10 (by decide) _)) rfl hl.1 (lv_room (Nat.le_of_ble_eq_true rfl)) dX10_as_100 ⟨Nat.zero_le _, Nat.zero_le _⟩) hS (fun H locs hP hS => ?_)
                  refine lv_goto (tgt := 108) hx hb dX10_as_103 (by decide) ?_
                  exact tm_iret C0 (by rw [Option.some.inj h]) hP hS dX10_as_108
                · rw [if_neg c56] at h
                  refine lv_iload_n hx hb dX10_as_72 rfl (lv_at hl 2 rfl) ?_
                  refine lv_iconst (v := 3) hx hb dX10_as_73 (by decide) ?_
                  refine lv_icmp_ne (tgt := 91) hx hb dX10_as_74 (by decide) (fun c60 => ?_) (fun c60 => ?_)
                  · rw [if_neg c60] at h
                    refine lv_iconst (v := 0) hx hb dX10_as_91 (by decide) ?_
                    refine lv_istore_n (lv' := [(3, .int 0), (0, .ref (g.2.2 + 127)), (1, .int p1), (2, .int p2)]) hx hb dX10_as_92 rfl hl (by decide) rfl (fun ls hl => ?_)
                    refine lv_iload_n hx hb dX10_as_93 rfl (lv_at hl 0 rfl) ?_
                    refine lv_if_eq (tgt := 106) hx hb dX10_as_94 (by decide) (fun _ => ?_) (fun c61 => absurd (by decide) c61)
                    refine lv_bipush (v := (-4)) hx hb dX10_as_106 (by decide) ?_
                    exact tm_iret C0 (by rw [Option.some.inj h]) hP hS dX10_as_108
                  · rw [if_pos c60] at h
                    refine lv_aload_n hx hb dX10_as_77 rfl (lv_at hl 0 rfl) ?_
                    refine tm_get (C := RX10) (T := TX10) (N := 23) (v := .ref (g.2.2 + 134)) hx hb hts nX10_as_X10 hown hK hP (hF 127 (by decide)) (tm_mkX10 (by decide) _) rfl 8 (by decide) (hts _ kX10_as_0) rfl dX10_as_78 ?_
                    refine lv_iload_n hx hb dX10_as_81 rfl (lv_at hl 1 rfl) ?_
                    obtain ⟨x62, e63, h⟩ := tm_bd_some h
                    refine tm_iald hx hb hK hP (hF 134 (by decide)) (tm_mkI (n := 6) (by decide) (by decide)) e63 dX10_as_82 ?_
                    refine lv_iconst (v := 2) hx hb dX10_as_83 (by decide) ?_
                    refine lv_icmp_ne (tgt := 91) hx hb dX10_as_84 (by decide) (fun c64 => ?_) (fun c64 => ?_)
                    · rw [if_neg c64] at h
                      refine lv_iconst (v := 0) hx hb dX10_as_91 (by decide) ?_
                      refine lv_istore_n (lv' := [(3, .int 0), (0, .ref (g.2.2 + 127)), (1, .int p1), (2, .int p2)]) hx hb dX10_as_92 rfl hl (by decide) rfl (fun ls hl => ?_)
                      refine lv_iload_n hx hb dX10_as_93 rfl (lv_at hl 0 rfl) ?_
                      refine lv_if_eq (tgt := 106) hx hb dX10_as_94 (by decide) (fun _ => ?_) (fun c65 => absurd (by decide) c65)
                      refine lv_bipush (v := (-4)) hx hb dX10_as_106 (by decide) ?_
                      exact tm_iret C0 (by rw [Option.some.inj h]) hP hS dX10_as_108
                    · rw [if_pos c64] at h
                      refine lv_iconst (v := 1) hx hb dX10_as_87 (by decide) ?_
                      refine lv_goto (tgt := 92) hx hb dX10_as_88 (by decide) ?_
                      refine lv_istore_n (lv' := [(3, .int 1), (0, .ref (g.2.2 + 127)), (1, .int p1), (2, .int p2)]) hx hb dX10_as_92 rfl hl (by decide) rfl (fun ls hl => ?_)
                      refine lv_iload_n hx hb dX10_as_93 rfl (lv_at hl 0 rfl) ?_
                      refine lv_if_eq (tgt := 106) hx hb dX10_as_94 (by decide) (fun c66 => absurd c66 (by decide)) (fun _ => ?_)
                      refine lv_aload_n hx hb dX10_as_97 rfl (lv_at hl 1 rfl) ?_
                      refine lv_iconst (v := 0) hx hb dX10_as_98 (by decide) ?_
                      refine lv_iload_n hx hb dX10_as_99 rfl (lv_at hl 2 rfl) ?_
                      obtain ⟨r67, e68, h⟩ := tm_bd_some h
                      refine tm_backI (r0 := r67) (M0 := M) (fun _ q => q) (tm_callV (As := [.int 0, .int p1]) (rest := []) ⟨hx, hb, hml, hown, hts⟩ hK hG hP hS (c_X10_gainOf l g A L hD hF M 0 p1 r67 e68) (cwV 2 hts gX10_as_X10_gainOf rfl rfl rfl (by decide +kernel) ⟨Nat.le_of_ble_eq_true rfl, Nat.le_of_ble_eq_true rfl⟩) (tm_recv hK hP (hF 127 (by decide)) (ci := 9) rfl (tm_mkX10 (by decide) _)) rfl hl.1 (lv_room (Nat.le_of_ble_eq_true rfl)) dX10_as_100 ⟨Nat.zero_le _, Nat.zero_le _⟩) hS (fun H locs hP hS => ?_)
                      refine lv_goto (tgt := 108) hx hb dX10_as_103 (by decide) ?_
                      exact tm_iret C0 (by rw [Option.some.inj h]) hP hS dX10_as_108
        · rw [if_pos c11] at h
          refine lv_aload_n hx hb dX10_as_32 rfl (lv_at hl 0 rfl) ?_
          refine tm_get (C := RX10) (T := TX10) (N := 23) (v := .ref (g.2.2 + 134)) hx hb hts nX10_as_X10 hown hK hP (hF 127 (by decide)) (tm_mkX10 (by decide) _) rfl 8 (by decide) (hts _ kX10_as_0) rfl dX10_as_33 ?_
          refine lv_iload_n hx hb dX10_as_36 rfl (lv_at hl 1 rfl) ?_
          obtain ⟨x69, e70, h⟩ := tm_bd_some h
          refine tm_iald hx hb hK hP (hF 134 (by decide)) (tm_mkI (n := 6) (by decide) (by decide)) e70 dX10_as_37 ?_
          refine lv_iconst (v := 3) hx hb dX10_as_38 (by decide) ?_
          refine lv_icmp_eq (tgt := 87) hx hb dX10_as_39 (by decide) (fun c71 => ?_) (fun c71 => ?_)
          · rw [if_pos c71] at h
            refine lv_iconst (v := 1) hx hb dX10_as_87 (by decide) ?_
            refine lv_goto (tgt := 92) hx hb dX10_as_88 (by decide) ?_
            refine lv_istore_n (lv' := [(3, .int 1), (0, .ref (g.2.2 + 127)), (1, .int p1), (2, .int p2)]) hx hb dX10_as_92 rfl hl (by decide) rfl (fun ls hl => ?_)
            refine lv_iload_n hx hb dX10_as_93 rfl (lv_at hl 0 rfl) ?_
            refine lv_if_eq (tgt := 106) hx hb dX10_as_94 (by decide) (fun c72 => absurd c72 (by decide)) (fun _ => ?_)
            refine lv_aload_n hx hb dX10_as_97 rfl (lv_at hl 1 rfl) ?_
            refine lv_iconst (v := 0) hx hb dX10_as_98 (by decide) ?_
            refine lv_iload_n hx hb dX10_as_99 rfl (lv_at hl 2 rfl) ?_
            obtain ⟨r73, e74, h⟩ := tm_bd_some h
            refine tm_backI (r0 := r73) (M0 := M) (fun _ q => q) (tm_callV (As := [.int 0, .int p1]) (rest := []) ⟨hx, hb, hml, hown, hts⟩ hK hG hP hS (c_X10_gainOf l g A L hD hF M 0 p1 r73 e74) (cwV 2 hts gX10_as_X10_gainOf rfl rfl rfl (by decide +kernel) ⟨Nat.le_of_ble_eq_true rfl, Nat.le_of_ble_eq_true rfl⟩) (tm_recv hK hP (hF 127 (by decide)) (ci := 9) rfl (tm_mkX10 (by decide) _)) rfl hl.1 (lv_room (Nat.le_of_ble_eq_true rfl)) dX10_as_100 ⟨Nat.zero_le _, Nat.zero_le _⟩) hS (fun H locs hP hS => ?_)
            refine lv_goto (tgt := 108) hx hb dX10_as_103 (by decide) ?_
            exact tm_iret C0 (by rw [Option.some.inj h]) hP hS dX10_as_108
          · rw [if_neg c71] at h
            refine lv_iload_n hx hb dX10_as_42 rfl (lv_at hl 2 rfl) ?_
            refine lv_iconst (v := 1) hx hb dX10_as_43 (by decide) ?_
            refine lv_icmp_ne (tgt := 57) hx hb dX10_as_44 (by decide) (fun c75 => ?_) (fun c75 => ?_)
            · rw [if_neg c75] at h
              refine lv_iload_n hx hb dX10_as_57 rfl (lv_at hl 2 rfl) ?_
              refine lv_iconst (v := 2) hx hb dX10_as_58 (by decide) ?_
              refine lv_icmp_ne (tgt := 72) hx hb dX10_as_59 (by decide) (fun c76 => ?_) (fun c76 => ?_)
              · rw [if_neg c76] at h
                refine lv_iload_n hx hb dX10_as_72 rfl (lv_at hl 2 rfl) ?_
                refine lv_iconst (v := 3) hx hb dX10_as_73 (by decide) ?_
                refine lv_icmp_ne (tgt := 91) hx hb dX10_as_74 (by decide) (fun c77 => ?_) (fun c77 => ?_)
                · rw [if_neg c77] at h
                  refine lv_iconst (v := 0) hx hb dX10_as_91 (by decide) ?_
                  refine lv_istore_n (lv' := [(3, .int 0), (0, .ref (g.2.2 + 127)), (1, .int p1), (2, .int p2)]) hx hb dX10_as_92 rfl hl (by decide) rfl (fun ls hl => ?_)
                  refine lv_iload_n hx hb dX10_as_93 rfl (lv_at hl 0 rfl) ?_
                  refine lv_if_eq (tgt := 106) hx hb dX10_as_94 (by decide) (fun _ => ?_) (fun c78 => absurd (by decide) c78)
                  refine lv_bipush (v := (-4)) hx hb dX10_as_106 (by decide) ?_
                  exact tm_iret C0 (by rw [Option.some.inj h]) hP hS dX10_as_108
                · rw [if_pos c77] at h
                  refine lv_aload_n hx hb dX10_as_77 rfl (lv_at hl 0 rfl) ?_
                  refine tm_get (C := RX10) (T := TX10) (N := 23) (v := .ref (g.2.2 + 134)) hx hb hts nX10_as_X10 hown hK hP (hF 127 (by decide)) (tm_mkX10 (by decide) _) rfl 8 (by decide) (hts _ kX10_as_0) rfl dX10_as_78 ?_
                  refine lv_iload_n hx hb dX10_as_81 rfl (lv_at hl 1 rfl) ?_
                  obtain ⟨x79, e80, h⟩ := tm_bd_some h
                  refine tm_iald hx hb hK hP (hF 134 (by decide)) (tm_mkI (n := 6) (by decide) (by decide)) e80 dX10_as_82 ?_
                  refine lv_iconst (v := 2) hx hb dX10_as_83 (by decide) ?_
                  refine lv_icmp_ne (tgt := 91) hx hb dX10_as_84 (by decide) (fun c81 => ?_) (fun c81 => ?_)
                  · rw [if_neg c81] at h
                    refine lv_iconst (v := 0) hx hb dX10_as_91 (by decide) ?_
                    refine lv_istore_n (lv' := [(3, .int 0), (0, .ref (g.2.2 + 127)), (1, .int p1), (2, .int p2)]) hx hb dX10_as_92 rfl hl (by decide) rfl (fun ls hl => ?_)
                    refine lv_iload_n hx hb dX10_as_93 rfl (lv_at hl 0 rfl) ?_
                    refine lv_if_eq (tgt := 106) hx hb dX10_as_94 (by decide) (fun _ => ?_) (fun c82 => absurd (by decide) c82)
                    refine lv_bipush (v := (-4)) hx hb dX10_as_106 (by decide) ?_
                    exact tm_iret C0 (by rw [Option.some.inj h]) hP hS dX10_as_108
                  · rw [if_pos c81] at h
                    refine lv_iconst (v := 1) hx hb dX10_as_87 (by decide) ?_
                    refine lv_goto (tgt := 92) hx hb dX10_as_88 (by decide) ?_
                    refine lv_istore_n (lv' := [(3, .int 1), (0, .ref (g.2.2 + 127)), (1, .int p1), (2, .int p2)]) hx hb dX10_as_92 rfl hl (by decide) rfl (fun ls hl => ?_)
                    refine lv_iload_n hx hb dX10_as_93 rfl (lv_at hl 0 rfl) ?_
                    refine lv_if_eq (tgt := 106) hx hb dX10_as_94 (by decide) (fun c83 => absurd c83 (by decide)) (fun _ => ?_)
                    refine lv_aload_n hx hb dX10_as_97 rfl (lv_at hl 1 rfl) ?_
                    refine lv_iconst (v := 0) hx hb dX10_as_98 (by decide) ?_
                    refine lv_iload_n hx hb dX10_as_99 rfl (lv_at hl 2 rfl) ?_
                    obtain ⟨r84, e85, h⟩ := tm_bd_some h
                    refine tm_backI (r0 := r84) (M0 := M) (fun _ q => q) (tm_callV (As := [.int 0, .int p1]) (rest := []) ⟨hx, hb, hml, hown, hts⟩ hK hG hP hS (c_X10_gainOf l g A L hD hF M 0 p1 r84 e85) (cwV 2 hts gX10_as_X10_gainOf rfl rfl rfl (by decide +kernel) ⟨Nat.le_of_ble_eq_true rfl, Nat.le_of_ble_eq_true rfl⟩) (tm_recv hK hP (hF 127 (by decide)) (ci := 9) rfl (tm_mkX10 (by decide) _)) rfl hl.1 (lv_room (Nat.le_of_ble_eq_true rfl)) dX10_as_100 ⟨Nat.zero_le _, Nat.zero_le _⟩) hS (fun H locs hP hS => ?_)
                    refine lv_goto (tgt := 108) hx hb dX10_as_103 (by decide) ?_
                    exact tm_iret C0 (by rw [Option.some.inj h]) hP hS dX10_as_108
              · rw [if_pos c76] at h
                refine lv_aload_n hx hb dX10_as_62 rfl (lv_at hl 0 rfl) ?_
                refine tm_get (C := RX10) (T := TX10) (N := 23) (v := .ref (g.2.2 + 134)) hx hb hts nX10_as_X10 hown hK hP (hF 127 (by decide)) (tm_mkX10 (by decide) _) rfl 8 (by decide) (hts _ kX10_as_0) rfl dX10_as_63 ?_
                refine lv_iload_n hx hb dX10_as_66 rfl (lv_at hl 1 rfl) ?_
                obtain ⟨x86, e87, h⟩ := tm_bd_some h
                refine tm_iald hx hb hK hP (hF 134 (by decide)) (tm_mkI (n := 6) (by decide) (by decide)) e87 dX10_as_67 ?_
                refine lv_iconst (v := 1) hx hb dX10_as_68 (by decide) ?_
                refine lv_icmp_eq (tgt := 87) hx hb dX10_as_69 (by decide) (fun c88 => ?_) (fun c88 => ?_)
                · rw [if_pos c88] at h
                  refine lv_iconst (v := 1) hx hb dX10_as_87 (by decide) ?_
                  refine lv_goto (tgt := 92) hx hb dX10_as_88 (by decide) ?_
                  refine lv_istore_n (lv' := [(3, .int 1), (0, .ref (g.2.2 + 127)), (1, .int p1), (2, .int p2)]) hx hb dX10_as_92 rfl hl (by decide) rfl (fun ls hl => ?_)
                  refine lv_iload_n hx hb dX10_as_93 rfl (lv_at hl 0 rfl) ?_
                  refine lv_if_eq (tgt := 106) hx hb dX10_as_94 (by decide) (fun c89 => absurd c89 (by decide)) (fun _ => ?_)
                  refine lv_aload_n hx hb dX10_as_97 rfl (lv_at hl 1 rfl) ?_
                  refine lv_iconst (v := 0) hx hb dX10_as_98 (by decide) ?_
                  refine lv_iload_n hx hb dX10_as_99 rfl (lv_at hl 2 rfl) ?_
                  obtain ⟨r90, e91, h⟩ := tm_bd_some h
                  refine tm_backI (r0 := r90) (M0 := M) (fun _ q => q) (tm_callV (As := [.int 0, .int p1]) (rest := []) ⟨hx, hb, hml, hown, hts⟩ hK hG hP hS (c_X10_gainOf l g A L hD hF M 0 p1 r90 e91) (cwV 2 hts gX10_as_X10_gainOf rfl rfl rfl (by decide +kernel) ⟨Nat.le_of_ble_eq_true rfl, Nat.le_of_ble_eq_true rfl⟩) (tm_recv hK hP (hF 127 (by decide)) (ci := 9) rfl (tm_mkX10 (by decide) _)) rfl hl.1 (lv_room (Nat.le_of_ble_eq_true rfl)) dX10_as_100 ⟨Nat.zero_le _, Nat.zero_le _⟩) hS (fun H locs hP hS => ?_)
                  refine lv_goto (tgt := 108) hx hb dX10_as_103 (by decide) ?_
                  exact tm_iret C0 (by rw [Option.some.inj h]) hP hS dX10_as_108
                · rw [if_neg c88] at h
                  refine lv_iload_n hx hb dX10_as_72 rfl (lv_at hl 2 rfl) ?_
                  refine lv_iconst (v := 3) hx hb dX10_as_73 (by decide) ?_
                  refine lv_icmp_ne (tgt := 91) hx hb dX10_as_74 (by decide) (fun c92 => ?_) (fun c92 => ?_)
                  · rw [if_neg c92] at h
                    refine lv_iconst (v := 0) hx hb dX10_as_91 (by decide) ?_
                    refine lv_istore_n (lv' := [(3, .int 0), (0, .ref (g.2.2 + 127)), (1, .int p1), (2, .int p2)]) hx hb dX10_as_92 rfl hl (by decide) rfl (fun ls hl => ?_)
                    refine lv_iload_n hx hb dX10_as_93 rfl (lv_at hl 0 rfl) ?_
                    refine lv_if_eq (tgt := 106) hx hb dX10_as_94 (by decide) (fun _ => ?_) (fun c93 => absurd (by decide) c93)
                    refine lv_bipush (v := (-4)) hx hb dX10_as_106 (by decide) ?_
                    exact tm_iret C0 (by rw [Option.some.inj h]) hP hS dX10_as_108
                  · rw [if_pos c92] at h
                    refine lv_aload_n hx hb dX10_as_77 rfl (lv_at hl 0 rfl) ?_
                    refine tm_get (C := RX10) (T := TX10) (N := 23) (v := .ref (g.2.2 + 134)) hx hb hts nX10_as_X10 hown hK hP (hF 127 (by decide)) (tm_mkX10 (by decide) _) rfl 8 (by decide) (hts _ kX10_as_0) rfl dX10_as_78 ?_
                    refine lv_iload_n hx hb dX10_as_81 rfl (lv_at hl 1 rfl) ?_
                    obtain ⟨x94, e95, h⟩ := tm_bd_some h
                    refine tm_iald hx hb hK hP (hF 134 (by decide)) (tm_mkI (n := 6) (by decide) (by decide)) e95 dX10_as_82 ?_
                    refine lv_iconst (v := 2) hx hb dX10_as_83 (by decide) ?_
                    refine lv_icmp_ne (tgt := 91) hx hb dX10_as_84 (by decide) (fun c96 => ?_) (fun c96 => ?_)
                    · rw [if_neg c96] at h
                      refine lv_iconst (v := 0) hx hb dX10_as_91 (by decide) ?_
                      refine lv_istore_n (lv' := [(3, .int 0), (0, .ref (g.2.2 + 127)), (1, .int p1), (2, .int p2)]) hx hb dX10_as_92 rfl hl (by decide) rfl (fun ls hl => ?_)
                      refine lv_iload_n hx hb dX10_as_93 rfl (lv_at hl 0 rfl) ?_
                      refine lv_if_eq (tgt := 106) hx hb dX10_as_94 (by decide) (fun _ => ?_) (fun c97 => absurd (by decide) c97)
                      refine lv_bipush (v := (-4)) hx hb dX10_as_106 (by decide) ?_
                      exact tm_iret C0 (by rw [Option.some.inj h]) hP hS dX10_as_108
                    · rw [if_pos c96] at h
                      refine lv_iconst (v := 1) hx hb dX10_as_87 (by decide) ?_
                      refine lv_goto (tgt := 92) hx hb dX10_as_88 (by decide) ?_
                      refine lv_istore_n (lv' := [(3, .int 1), (0, .ref (g.2.2 + 127)), (1, .int p1), (2, .int p2)]) hx hb dX10_as_92 rfl hl (by decide) rfl (fun ls hl => ?_)
                      refine lv_iload_n hx hb dX10_as_93 rfl (lv_at hl 0 rfl) ?_
                      refine lv_if_eq (tgt := 106) hx hb dX10_as_94 (by decide) (fun c98 => absurd c98 (by decide)) (fun _ => ?_)
                      refine lv_aload_n hx hb dX10_as_97 rfl (lv_at hl 1 rfl) ?_
                      refine lv_iconst (v := 0) hx hb dX10_as_98 (by decide) ?_
                      refine lv_iload_n hx hb dX10_as_99 rfl (lv_at hl 2 rfl) ?_
                      obtain ⟨r99, e100, h⟩ := tm_bd_some h
                      refine tm_backI (r0 := r99) (M0 := M) (fun _ q => q) (tm_callV (As := [.int 0, .int p1]) (rest := []) ⟨hx, hb, hml, hown, hts⟩ hK hG hP hS (c_X10_gainOf l g A L hD hF M 0 p1 r99 e100) (cwV 2 hts gX10_as_X10_gainOf rfl rfl rfl (by decide +kernel) ⟨Nat.le_of_ble_eq_true rfl, Nat.le_of_ble_eq_true rfl⟩) (tm_recv hK hP (hF 127 (by decide)) (ci := 9) rfl (tm_mkX10 (by decide) _)) rfl hl.1 (lv_room (Nat.le_of_ble_eq_true rfl)) dX10_as_100 ⟨Nat.zero_le _, Nat.zero_le _⟩) hS (fun H locs hP hS => ?_)
                      refine lv_goto (tgt := 108) hx hb dX10_as_103 (by decide) ?_
                      exact tm_iret C0 (by rw [Option.some.inj h]) hP hS dX10_as_108
            · rw [if_pos c75] at h
              refine lv_aload_n hx hb dX10_as_47 rfl (lv_at hl 0 rfl) ?_
              refine tm_get (C := RX10) (T := TX10) (N := 23) (v := .ref (g.2.2 + 134)) hx hb hts nX10_as_X10 hown hK hP (hF 127 (by decide)) (tm_mkX10 (by decide) _) rfl 8 (by decide) (hts _ kX10_as_0) rfl dX10_as_48 ?_
              refine lv_iload_n hx hb dX10_as_51 rfl (lv_at hl 1 rfl) ?_
              obtain ⟨x101, e102, h⟩ := tm_bd_some h
              refine tm_iald hx hb hK hP (hF 134 (by decide)) (tm_mkI (n := 6) (by decide) (by decide)) e102 dX10_as_52 ?_
              refine lv_iconst (v := 3) hx hb dX10_as_53 (by decide) ?_
              refine lv_icmp_ne (tgt := 87) hx hb dX10_as_54 (by decide) (fun c103 => ?_) (fun c103 => ?_)
              · rw [if_neg c103] at h
                refine lv_iconst (v := 1) hx hb dX10_as_87 (by decide) ?_
                refine lv_goto (tgt := 92) hx hb dX10_as_88 (by decide) ?_
                refine lv_istore_n (lv' := [(3, .int 1), (0, .ref (g.2.2 + 127)), (1, .int p1), (2, .int p2)]) hx hb dX10_as_92 rfl hl (by decide) rfl (fun ls hl => ?_)
                refine lv_iload_n hx hb dX10_as_93 rfl (lv_at hl 0 rfl) ?_
                refine lv_if_eq (tgt := 106) hx hb dX10_as_94 (by decide) (fun c104 => absurd c104 (by decide)) (fun _ => ?_)
                refine lv_aload_n hx hb dX10_as_97 rfl (lv_at hl 1 rfl) ?_
                refine lv_iconst (v := 0) hx hb dX10_as_98 (by decide) ?_
                refine lv_iload_n hx hb dX10_as_99 rfl (lv_at hl 2 rfl) ?_
                obtain ⟨r105, e106, h⟩ := tm_bd_some h
                refine tm_backI (r0 := r105) (M0 := M) (fun _ q => q) (tm_callV (As := [.int 0, .int p1]) (rest := []) ⟨hx, hb, hml, hown, hts⟩ hK hG hP hS (c_X10_gainOf l g A L hD hF M 0 p1 r105 e106) (cwV 2 hts gX10_as_X10_gainOf rfl rfl rfl (by decide +kernel) ⟨Nat.le_of_ble_eq_true rfl, Nat.le_of_ble_eq_true rfl⟩) (tm_recv hK hP (hF 127 (by decide)) (ci := 9) rfl (tm_mkX10 (by decide) _)) rfl hl.1 (lv_room (Nat.le_of_ble_eq_true rfl)) dX10_as_100 ⟨Nat.zero_le _, Nat.zero_le _⟩) hS (fun H locs hP hS => ?_)
                refine lv_goto (tgt := 108) hx hb dX10_as_103 (by decide) ?_
                exact tm_iret C0 (by rw [Option.some.inj h]) hP hS dX10_as_108
              · rw [if_pos c103] at h
                refine lv_iload_n hx hb dX10_as_57 rfl (lv_at hl 2 rfl) ?_
                refine lv_iconst (v := 2) hx hb dX10_as_58 (by decide) ?_
                refine lv_icmp_ne (tgt := 72) hx hb dX10_as_59 (by decide) (fun c107 => ?_) (fun c107 => ?_)
                · rw [if_neg c107] at h
                  refine lv_iload_n hx hb dX10_as_72 rfl (lv_at hl 2 rfl) ?_
                  refine lv_iconst (v := 3) hx hb dX10_as_73 (by decide) ?_
                  refine lv_icmp_ne (tgt := 91) hx hb dX10_as_74 (by decide) (fun c108 => ?_) (fun c108 => ?_)
                  · rw [if_neg c108] at h
                    refine lv_iconst (v := 0) hx hb dX10_as_91 (by decide) ?_
                    refine lv_istore_n (lv' := [(3, .int 0), (0, .ref (g.2.2 + 127)), (1, .int p1), (2, .int p2)]) hx hb dX10_as_92 rfl hl (by decide) rfl (fun ls hl => ?_)
                    refine lv_iload_n hx hb dX10_as_93 rfl (lv_at hl 0 rfl) ?_
                    refine lv_if_eq (tgt := 106) hx hb dX10_as_94 (by decide) (fun _ => ?_) (fun c109 => absurd (by decide) c109)
                    refine lv_bipush (v := (-4)) hx hb dX10_as_106 (by decide) ?_
                    exact tm_iret C0 (by rw [Option.some.inj h]) hP hS dX10_as_108
                  · rw [if_pos c108] at h
                    refine lv_aload_n hx hb dX10_as_77 rfl (lv_at hl 0 rfl) ?_
                    refine tm_get (C := RX10) (T := TX10) (N := 23) (v := .ref (g.2.2 + 134)) hx hb hts nX10_as_X10 hown hK hP (hF 127 (by decide)) (tm_mkX10 (by decide) _) rfl 8 (by decide) (hts _ kX10_as_0) rfl dX10_as_78 ?_
                    refine lv_iload_n hx hb dX10_as_81 rfl (lv_at hl 1 rfl) ?_
                    obtain ⟨x110, e111, h⟩ := tm_bd_some h
                    refine tm_iald hx hb hK hP (hF 134 (by decide)) (tm_mkI (n := 6) (by decide) (by decide)) e111 dX10_as_82 ?_
                    refine lv_iconst (v := 2) hx hb dX10_as_83 (by decide) ?_
                    refine lv_icmp_ne (tgt := 91) hx hb dX10_as_84 (by decide) (fun c112 => ?_) (fun c112 => ?_)
                    · rw [if_neg c112] at h
                      refine lv_iconst (v := 0) hx hb dX10_as_91 (by decide) ?_
                      refine lv_istore_n (lv' := [(3, .int 0), (0, .ref (g.2.2 + 127)), (1, .int p1), (2, .int p2)]) hx hb dX10_as_92 rfl hl (by decide) rfl (fun ls hl => ?_)
                      refine lv_iload_n hx hb dX10_as_93 rfl (lv_at hl 0 rfl) ?_
                      refine lv_if_eq (tgt := 106) hx hb dX10_as_94 (by decide) (fun _ => ?_) (fun c113 => absurd (by decide) c113)
                      refine lv_bipush (v := (-4)) hx hb dX10_as_106 (by decide) ?_
                      exact tm_iret C0 (by rw [Option.some.inj h]) hP hS dX10_as_108
                    · rw [if_pos c112] at h
                      refine lv_iconst (v := 1) hx hb dX10_as_87 (by decide) ?_
                      refine lv_goto (tgt := 92) hx hb dX10_as_88 (by decide) ?_
                      refine lv_istore_n (lv' := [(3, .int 1), (0, .ref (g.2.2 + 127)), (1, .int p1), (2, .int p2)]) hx hb dX10_as_92 rfl hl (by decide) rfl (fun ls hl => ?_)
                      refine lv_iload_n hx hb dX10_as_93 rfl (lv_at hl 0 rfl) ?_
                      refine lv_if_eq (tgt := 106) hx hb dX10_as_94 (by decide) (fun c114 => absurd c114 (by decide)) (fun _ => ?_)
                      refine lv_aload_n hx hb dX10_as_97 rfl (lv_at hl 1 rfl) ?_
                      refine lv_iconst (v := 0) hx hb dX10_as_98 (by decide) ?_
                      refine lv_iload_n hx hb dX10_as_99 rfl (lv_at hl 2 rfl) ?_
                      obtain ⟨r115, e116, h⟩ := tm_bd_some h
                      refine tm_backI (r0 := r115) (M0 := M) (fun _ q => q) (tm_callV (As := [.int 0, .int p1]) (rest := []) ⟨hx, hb, hml, hown, hts⟩ hK hG hP hS (c_X10_gainOf l g A L hD hF M 0 p1 r115 e116) (cwV 2 hts gX10_as_X10_gainOf rfl rfl rfl (by decide +kernel) ⟨Nat.le_of_ble_eq_true rfl, Nat.le_of_ble_eq_true rfl⟩) (tm_recv hK hP (hF 127 (by decide)) (ci := 9) rfl (tm_mkX10 (by decide) _)) rfl hl.1 (lv_room (Nat.le_of_ble_eq_true rfl)) dX10_as_100 ⟨Nat.zero_le _, Nat.zero_le _⟩) hS (fun H locs hP hS => ?_)
                      refine lv_goto (tgt := 108) hx hb dX10_as_103 (by decide) ?_
                      exact tm_iret C0 (by rw [Option.some.inj h]) hP hS dX10_as_108
                · rw [if_pos c107] at h
                  refine lv_aload_n hx hb dX10_as_62 rfl (lv_at hl 0 rfl) ?_
                  refine tm_get (C := RX10) (T := TX10) (N := 23) (v := .ref (g.2.2 + 134)) hx hb hts nX10_as_X10 hown hK hP (hF 127 (by decide)) (tm_mkX10 (by decide) _) rfl 8 (by decide) (hts _ kX10_as_0) rfl dX10_as_63 ?_
                  refine lv_iload_n hx hb dX10_as_66 rfl (lv_at hl 1 rfl) ?_
                  obtain ⟨x117, e118, h⟩ := tm_bd_some h
                  refine tm_iald hx hb hK hP (hF 134 (by decide)) (tm_mkI (n := 6) (by decide) (by decide)) e118 dX10_as_67 ?_
                  refine lv_iconst (v := 1) hx hb dX10_as_68 (by decide) ?_
                  refine lv_icmp_eq (tgt := 87) hx hb dX10_as_69 (by decide) (fun c119 => ?_) (fun c119 => ?_)
                  · rw [if_pos c119] at h
                    refine lv_iconst (v := 1) hx hb dX10_as_87 (by decide) ?_
                    refine lv_goto (tgt := 92) hx hb dX10_as_88 (by decide) ?_
                    refine lv_istore_n (lv' := [(3, .int 1), (0, .ref (g.2.2 + 127)), (1, .int p1), (2, .int p2)]) hx hb dX10_as_92 rfl hl (by decide) rfl (fun ls hl => ?_)
                    refine lv_iload_n hx hb dX10_as_93 rfl (lv_at hl 0 rfl) ?_
                    refine lv_if_eq (tgt := 106) hx hb dX10_as_94 (by decide) (fun c120 => absurd c120 (by decide)) (fun _ => ?_)
                    refine lv_aload_n hx hb dX10_as_97 rfl (lv_at hl 1 rfl) ?_
                    refine lv_iconst (v := 0) hx hb dX10_as_98 (by decide) ?_
                    refine lv_iload_n hx hb dX10_as_99 rfl (lv_at hl 2 rfl) ?_
                    obtain ⟨r121, e122, h⟩ := tm_bd_some h
                    refine tm_backI (r0 := r121) (M0 := M) (fun _ q => q) (tm_callV (As := [.int 0, .int p1]) (rest := []) ⟨hx, hb, hml, hown, hts⟩ hK hG hP hS (c_X10_gainOf l g A L hD hF M 0 p1 r121 e122) (cwV 2 hts gX10_as_X10_gainOf rfl rfl rfl (by decide +kernel) ⟨Nat.le_of_ble_eq_true rfl, Nat.le_of_ble_eq_true rfl⟩) (tm_recv hK hP (hF 127 (by decide)) (ci := 9) rfl (tm_mkX10 (by decide) _)) rfl hl.1 (lv_room (Nat.le_of_ble_eq_true rfl)) dX10_as_100 ⟨Nat.zero_le _, Nat.zero_le _⟩) hS (fun H locs hP hS => ?_)
                    refine lv_goto (tgt := 108) hx hb dX10_as_103 (by decide) ?_
                    exact tm_iret C0 (by rw [Option.some.inj h]) hP hS dX10_as_108
                  · rw [if_neg c119] at h
                    refine lv_iload_n hx hb dX10_as_72 rfl (lv_at hl 2 rfl) ?_
                    refine lv_iconst (v := 3) hx hb dX10_as_73 (by decide) ?_
                    refine lv_icmp_ne (tgt := 91) hx hb dX10_as_74 (by decide) (fun c123 => ?_) (fun c123 => ?_)
                    · rw [if_neg c123] at h
                      refine lv_iconst (v := 0) hx hb dX10_as_91 (by decide) ?_
                      refine lv_istore_n (lv' := [(3, .int 0), (0, .ref (g.2.2 + 127)), (1, .int p1), (2, .int p2)]) hx hb dX10_as_92 rfl hl (by decide) rfl (fun ls hl => ?_)
                      refine lv_iload_n hx hb dX10_as_93 rfl (lv_at hl 0 rfl) ?_
                      refine lv_if_eq (tgt := 106) hx hb dX10_as_94 (by decide) (fun _ => ?_) (fun c124 => absurd (by decide) c124)
                      refine lv_bipush (v := (-4)) hx hb dX10_as_106 (by decide) ?_
                      exact tm_iret C0 (by rw [Option.some.inj h]) hP hS dX10_as_108
                    · rw [if_pos c123] at h
                      refine lv_aload_n hx hb dX10_as_77 rfl (lv_at hl 0 rfl) ?_
                      refine tm_get (C := RX10) (T := TX10) (N := 23) (v := .ref (g.2.2 + 134)) hx hb hts nX10_as_X10 hown hK hP (hF 127 (by decide)) (tm_mkX10 (by decide) _) rfl 8 (by decide) (hts _ kX10_as_0) rfl dX10_as_78 ?_
                      refine lv_iload_n hx hb dX10_as_81 rfl (lv_at hl 1 rfl) ?_
                      obtain ⟨x125, e126, h⟩ := tm_bd_some h
                      refine tm_iald hx hb hK hP (hF 134 (by decide)) (tm_mkI (n := 6) (by decide) (by decide)) e126 dX10_as_82 ?_
                      refine lv_iconst (v := 2) hx hb dX10_as_83 (by decide) ?_
                      refine lv_icmp_ne (tgt := 91) hx hb dX10_as_84 (by decide) (fun c127 => ?_) (fun c127 => ?_)
                      · rw [if_neg c127] at h
                        refine lv_iconst (v := 0) hx hb dX10_as_91 (by decide) ?_
                        refine lv_istore_n (lv' := [(3, .int 0), (0, .ref (g.2.2 + 127)), (1, .int p1), (2, .int p2)]) hx hb dX10_as_92 rfl hl (by decide) rfl (fun ls hl => ?_)
                        refine lv_iload_n hx hb dX10_as_93 rfl (lv_at hl 0 rfl) ?_
                        refine lv_if_eq (tgt := 106) hx hb dX10_as_94 (by decide) (fun _ => ?_) (fun c128 => absurd (by decide) c128)
                        refine lv_bipush (v := (-4)) hx hb dX10_as_106 (by decide) ?_
                        exact tm_iret C0 (by rw [Option.some.inj h]) hP hS dX10_as_108
                      · rw [if_pos c127] at h
                        refine lv_iconst (v := 1) hx hb dX10_as_87 (by decide) ?_
                        refine lv_goto (tgt := 92) hx hb dX10_as_88 (by decide) ?_
                        refine lv_istore_n (lv' := [(3, .int 1), (0, .ref (g.2.2 + 127)), (1, .int p1), (2, .int p2)]) hx hb dX10_as_92 rfl hl (by decide) rfl (fun ls hl => ?_)
                        refine lv_iload_n hx hb dX10_as_93 rfl (lv_at hl 0 rfl) ?_
                        refine lv_if_eq (tgt := 106) hx hb dX10_as_94 (by decide) (fun c129 => absurd c129 (by decide)) (fun _ => ?_)
                        refine lv_aload_n hx hb dX10_as_97 rfl (lv_at hl 1 rfl) ?_
                        refine lv_iconst (v := 0) hx hb dX10_as_98 (by decide) ?_
                        refine lv_iload_n hx hb dX10_as_99 rfl (lv_at hl 2 rfl) ?_
                        obtain ⟨r130, e131, h⟩ := tm_bd_some h
                        refine tm_backI (r0 := r130) (M0 := M) (fun _ q => q) (tm_callV (As := [.int 0, .int p1]) (rest := []) ⟨hx, hb, hml, hown, hts⟩ hK hG hP hS (c_X10_gainOf l g A L hD hF M 0 p1 r130 e131) (cwV 2 hts gX10_as_X10_gainOf rfl rfl rfl (by decide +kernel) ⟨Nat.le_of_ble_eq_true rfl, Nat.le_of_ble_eq_true rfl⟩) (tm_recv hK hP (hF 127 (by decide)) (ci := 9) rfl (tm_mkX10 (by decide) _)) rfl hl.1 (lv_room (Nat.le_of_ble_eq_true rfl)) dX10_as_100 ⟨Nat.zero_le _, Nat.zero_le _⟩) hS (fun H locs hP hS => ?_)
                        refine lv_goto (tgt := 108) hx hb dX10_as_103 (by decide) ?_
                        exact tm_iret C0 (by rw [Option.some.inj h]) hP hS dX10_as_108
    · rw [if_pos c6] at h
      refine lv_bipush (v := (-3)) hx hb dX10_as_20 (by decide) ?_
      exact tm_iret C0 (by rw [Option.some.inj h]) hP hS dX10_as_22
  · rw [if_pos c3] at h
    refine lv_bipush (v := (-2)) hx hb dX10_as_8 (by decide) ?_
    exact tm_iret C0 (by rw [Option.some.inj h]) hP hS dX10_as_10
/-! X10_term -/
theorem nX10_term_X10 : ∀ w ∈ wsX100, w ∈ wsX10_term := by decide +kernel
theorem kX10_term_0 : Cond.fieldLink RX10 22 "QuarrelDeskModel" "row" "[I" ∈ wsX10_term := by decide +kernel
def f_X10_term (M : tm_M) (p1 : Int32) : Option Int32 :=
  (f_X10_in p1 0 5).bind fun r1 =>
  if r1 = 0 then
    some (-3)
  else
    (tm_rd M 132 672 (1 + p1)).bind fun x4 =>
    some x4
set_option maxHeartbeats 4000000 in
set_option maxRecDepth 100000 in
theorem c_X10_term (l : Launch) (g : tm_G) (A : Nat → Prop) (L : List Nat) (hD : ∀ M, va_D A (tm_ws g L M)) (hF : ∀ o, tm_all o → o ∈ L) (M : tm_M) (p1 : Int32) (r0 : Int32) (h : f_X10_term M p1 = some r0) : Met l yX10_term wsX10_term { frames := 1, cells := 0, slots := 0, locals := 22 } (tm_PC g A L M [.ref (g.2.2 + 127), .int p1]) (tm_QI g A L (r0, M)) 0 0 A := by
  refine tm_start (cc := cX10_term) (nL := 2) (ret := (some .int)) (F := tm_all) (plainFor_of_name (by decide)) rfl (Nat.le_of_ble_eq_true rfl) hD hF (fun p e s m args below meth c ls C0 hP hS hl => ?_)
  have hl : lv_has ls 2 [(0, .ref (g.2.2 + 127)), (1, .int p1)] := hl
  have C0 : tm_C p m c cX10_term 2 s args wsX10_term RX10 meth (some .int) g A L tm_all := C0
  obtain ⟨⟨hx, hb, hml, hown, hts⟩, hr, hlk, hK, hD, hG, hF⟩ := id C0
  unfold f_X10_term at h
  refine lv_iload_n hx hb dX10_term_0 rfl (lv_at hl 1 rfl) ?_
  refine lv_iconst (v := 0) hx hb dX10_term_1 (by decide) ?_
  refine lv_iconst (v := 5) hx hb dX10_term_2 (by decide) ?_
  obtain ⟨r1, e2, h⟩ := tm_bd_some h
  refine tm_backI (r0 := r1) (M0 := M) (fun _ q => q) (tm_callS (As := [.int p1, .int 0, .int 5]) (rest := []) ⟨hx, hb, hml, hown, hts⟩ hK hG hP hS (c_X10_in l g A L hD hF M p1 0 5 r1 e2) (va_cwS 3 hts gX10_term_X10_in rfl rfl rfl (by decide +kernel) ⟨Nat.le_of_ble_eq_true rfl, Nat.le_of_ble_eq_true rfl⟩) rfl hl.1 (lv_room (Nat.le_of_ble_eq_true rfl)) dX10_term_3 ⟨Nat.zero_le _, Nat.zero_le _⟩) hS (fun H locs hP hS => ?_)
  refine lv_if_eq (tgt := 20) hx hb dX10_term_6 (by decide) (fun c3 => ?_) (fun c3 => ?_)
  · rw [if_pos c3] at h
    refine lv_bipush (v := (-3)) hx hb dX10_term_20 (by decide) ?_
    exact tm_iret C0 (by rw [Option.some.inj h]) hP hS dX10_term_22
  · rw [if_neg c3] at h
    refine lv_aload_n hx hb dX10_term_9 rfl (lv_at hl 0 rfl) ?_
    refine tm_get (C := RX10) (T := TX10) (N := 23) (v := .ref (g.2.2 + 132)) hx hb hts nX10_term_X10 hown hK hP (hF 127 (by decide)) (tm_mkX10 (by decide) _) rfl 4 (by decide) (hts _ kX10_term_0) rfl dX10_term_10 ?_
    refine lv_iconst (v := 1) hx hb dX10_term_13 (by decide) ?_
    refine lv_iload_n hx hb dX10_term_14 rfl (lv_at hl 1 rfl) ?_
    refine lv_iadd hx hb dX10_term_15 ?_
    obtain ⟨x4, e5, h⟩ := tm_bd_some h
    refine tm_iald hx hb hK hP (hF 132 (by decide)) (tm_mkI (n := 672) (by decide) (by decide)) e5 dX10_term_16 ?_
    refine lv_goto (tgt := 22) hx hb dX10_term_17 (by decide) ?_
    exact tm_iret C0 (by rw [Option.some.inj h]) hP hS dX10_term_22
/-! X10_termOf -/
theorem nX10_termOf_X10 : ∀ w ∈ wsX100, w ∈ wsX10_termOf := by decide +kernel
theorem kX10_termOf_0 : Cond.fieldLink RX10 22 "QuarrelDeskModel" "row" "[I" ∈ wsX10_termOf := by decide +kernel
def f_X10_termOf (M : tm_M) (p1 : Int32) (p2 : Int32) : Option Int32 :=
  (tm_rd M 132 672 ((p1 + 1) + p2)).bind fun x1 =>
  some x1
set_option maxHeartbeats 4000000 in
set_option maxRecDepth 100000 in
theorem c_X10_termOf (l : Launch) (g : tm_G) (A : Nat → Prop) (L : List Nat) (hD : ∀ M, va_D A (tm_ws g L M)) (hF : ∀ o, tm_all o → o ∈ L) (M : tm_M) (p1 : Int32) (p2 : Int32) (r0 : Int32) (h : f_X10_termOf M p1 p2 = some r0) : Met l yX10_termOf wsX10_termOf { frames := 0, cells := 0, slots := 0, locals := 0 } (tm_PC g A L M [.ref (g.2.2 + 127), .int p1, .int p2]) (tm_QI g A L (r0, M)) 0 0 A := by
  refine tm_start (cc := cX10_termOf) (nL := 3) (ret := (some .int)) (F := tm_all) (plainFor_of_name (by decide)) rfl (Nat.le_of_ble_eq_true rfl) hD hF (fun p e s m args below meth c ls C0 hP hS hl => ?_)
  have hl : lv_has ls 3 [(0, .ref (g.2.2 + 127)), (1, .int p1), (2, .int p2)] := hl
  have C0 : tm_C p m c cX10_termOf 3 s args wsX10_termOf RX10 meth (some .int) g A L tm_all := C0
  obtain ⟨⟨hx, hb, hml, hown, hts⟩, hr, hlk, hK, hD, hG, hF⟩ := id C0
  unfold f_X10_termOf at h
  refine lv_aload_n hx hb dX10_termOf_0 rfl (lv_at hl 0 rfl) ?_
  refine tm_get (C := RX10) (T := TX10) (N := 23) (v := .ref (g.2.2 + 132)) hx hb hts nX10_termOf_X10 hown hK hP (hF 127 (by decide)) (tm_mkX10 (by decide) _) rfl 4 (by decide) (hts _ kX10_termOf_0) rfl dX10_termOf_1 ?_
  refine lv_iload_n hx hb dX10_termOf_4 rfl (lv_at hl 1 rfl) ?_
  refine lv_iconst (v := 1) hx hb dX10_termOf_5 (by decide) ?_
  refine lv_iadd hx hb dX10_termOf_6 ?_
  refine lv_iload_n hx hb dX10_termOf_7 rfl (lv_at hl 2 rfl) ?_
  refine lv_iadd hx hb dX10_termOf_8 ?_
  obtain ⟨x1, e2, h⟩ := tm_bd_some h
  refine tm_iald hx hb hK hP (hF 132 (by decide)) (tm_mkI (n := 672) (by decide) (by decide)) e2 dX10_termOf_9 ?_
  exact tm_iret C0 (by rw [Option.some.inj h]) hP hS dX10_termOf_10
