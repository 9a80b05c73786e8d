/-! X7_read -/
theorem nX7_read_X7 : ∀ w ∈ wsX70, w ∈ wsX7_read := by decide +kernel
theorem kX7_read_0 : Cond.fieldLink RX7 28 "QuarrelDesk$Text" "clauses" "I" ∈ wsX7_read := by decide +kernel
theorem kX7_read_1 : Cond.fieldLink RX7 31 "QuarrelDesk$Text" "ends" "I" ∈ wsX7_read := by decide +kernel
theorem kX7_read_2 : Cond.fieldLink RX7 45 "QuarrelDesk$Text" "begins" "I" ∈ wsX7_read := by decide +kernel
theorem kX7_read_3 : Cond.fieldLink RX7 15 "QuarrelDesk$Text" "words" "[I" ∈ wsX7_read := by decide +kernel
theorem kX7_read_4 : Cond.fieldLink RX7 24 "QuarrelDesk$Text" "length" "I" ∈ wsX7_read := by decide +kernel
def f_X7_read_L14 (k : Int32 → Int32 → tm_M → Option (Int32 × tm_M)) (w1 : Int32) : Nat → Int32 → Int32 → tm_M → Option (Int32 × tm_M)
  | 0, _, _, _ => none
  | n + 1, v2, v3, M =>
    if 14 ≤ v3 then
      k v2 v3 M
    else
      (f_X7_nextToken M).bind fun M8 =>
      (f_X7_word M8).bind fun r9 =>
      if r9 = (-1) then
        some (M8 2 6, M8)
      else
        (f_X7_isCouple r9).bind fun r12 =>
        if r12 = 0 then
          (f_X7_readNumbers M8 v3 r9).bind fun r15 =>
          if r15.1 = 0 then
            some (r15.2 2 6, r15.2)
          else
            (tm_wr r15.2 4 14 v3 r9).bind fun M18 =>
            (some (tm_st M18 2 3 (v3 + 1))).bind fun M20 =>
            if r9 = 0 then
              (f_X7_nextToken M20).bind fun M43 =>
              if (M43 2 6) < (M43 2 4) then
                (f_X7_letterAt M43 (M43 2 6)).bind fun r45 =>
                if r45 = 59 then
                  f_X7_read_L14 k w1 n 0 (v3 + 1) M43
                else
                  some (M43 2 6, M43)
              else
                some ((-1), M43)
            else
              (f_X7_isCouple r9).bind fun r23 =>
              if r23 = 0 then
                (f_X7_nextToken M20).bind fun M28 =>
                if (M28 2 6) < (M28 2 4) then
                  (f_X7_letterAt M28 (M28 2 6)).bind fun r30 =>
                  if r30 = 59 then
                    f_X7_read_L14 k w1 n v2 (v3 + 1) M28
                  else
                    some (M28 2 6, M28)
                else
                  some ((-1), M28)
              else
                (some (v2 + 1)).bind fun x33 =>
                (f_X7_nextToken M20).bind fun M36 =>
                if (M36 2 6) < (M36 2 4) then
                  (f_X7_letterAt M36 (M36 2 6)).bind fun r38 =>
                  if r38 = 59 then
                    f_X7_read_L14 k w1 n x33 (v3 + 1) M36
                  else
                    some (M36 2 6, M36)
                else
                  some ((-1), M36)
        else
          if v2 < 6 then
            (f_X7_readNumbers M8 v3 r9).bind fun r49 =>
            if r49.1 = 0 then
              some (r49.2 2 6, r49.2)
            else
              (tm_wr r49.2 4 14 v3 r9).bind fun M52 =>
              (some (tm_st M52 2 3 (v3 + 1))).bind fun M54 =>
              if r9 = 0 then
                (f_X7_nextToken M54).bind fun M77 =>
                if (M77 2 6) < (M77 2 4) then
                  (f_X7_letterAt M77 (M77 2 6)).bind fun r79 =>
                  if r79 = 59 then
                    f_X7_read_L14 k w1 n 0 (v3 + 1) M77
                  else
                    some (M77 2 6, M77)
                else
                  some ((-1), M77)
              else
                (f_X7_isCouple r9).bind fun r57 =>
                if r57 = 0 then
                  (f_X7_nextToken M54).bind fun M62 =>
                  if (M62 2 6) < (M62 2 4) then
                    (f_X7_letterAt M62 (M62 2 6)).bind fun r64 =>
                    if r64 = 59 then
                      f_X7_read_L14 k w1 n v2 (v3 + 1) M62
                    else
                      some (M62 2 6, M62)
                  else
                    some ((-1), M62)
                else
                  (some (v2 + 1)).bind fun x67 =>
                  (f_X7_nextToken M54).bind fun M70 =>
                  if (M70 2 6) < (M70 2 4) then
                    (f_X7_letterAt M70 (M70 2 6)).bind fun r72 =>
                    if r72 = 59 then
                      f_X7_read_L14 k w1 n x67 (v3 + 1) M70
                    else
                      some (M70 2 6, M70)
                  else
                    some ((-1), M70)
          else
            some (M8 2 6, M8)
def f_X7_read (M : tm_M) (p1 : Int32) : Option (Int32 × tm_M) :=
  (some (tm_st M 2 3 0)).bind fun M1 =>
  (some (tm_st M1 2 7 0)).bind fun M3 =>
  f_X7_read_L14 (fun v82 v83 M84 =>
    some (M84 2 6, M84)) p1 1000 p1 0 M3
set_option maxHeartbeats 4000000 in
set_option maxRecDepth 100000 in
theorem w_X7_read_L14 {p : Program} {l : Launch} {e : Env} {s : State} {m : MethodId} {args : Array Value} {below : List Frame} {meth : Method} {c : Code} {g : tm_G} {A : Nat → Prop} {L : List Nat} (C0 : tm_C p m c cX7_read 5 s args wsX7_read RX7 meth (some .int) g A L tm_all) (w1 : Int32) (k : Int32 → Int32 → tm_M → Option (Int32 × tm_M)) (R0 : Int32 × tm_M) (hk : ∀ (v2 : Int32) (v3 : Int32) (M : tm_M), k v2 v3 M = some R0 → ∀ (H : Heap) (locs : List Loc) (ls : Array Slot), va_P g.1 vwCl (tm_ws g L M) H → va_S A s.heap H locs → lv_has ls 5 [(0, .ref (g.2.2 + 2)), (1, .int w1), (2, .int v2), (3, .int v3)] → W p l e { frames := 6, cells := 0, slots := 0, locals := 131 } s m args below meth c H locs 0 0 (MQ below (tm_QI g A L R0) args s 0 0 A) (F0 m 151 ls [])) : ∀ (n : Nat) (v2 : Int32) (v3 : Int32) (M : tm_M), f_X7_read_L14 k w1 n v2 v3 M = some R0 → ∀ (H : Heap) (locs : List Loc) (ls : Array Slot), va_P g.1 vwCl (tm_ws g L M) H → va_S A s.heap H locs → lv_has ls 5 [(0, .ref (g.2.2 + 2)), (1, .int w1), (2, .int v2), (3, .int v3)] → W p l e { frames := 6, cells := 0, slots := 0, locals := 131 } s m args below meth c H locs 0 0 (MQ below (tm_QI g A L R0) args s 0 0 A) (F0 m 14 ls []) := by
  obtain ⟨⟨hx, hb, hml, hown, hts⟩, hr, hlk, hK, hD, hG, hF⟩ := id C0
  intro n
  induction n with
  | zero =>
    intro v2 v3 M h
    simp [f_X7_read_L14] at h
  | succ n ih =>
    intro v2 v3 M h H locs ls hP hS hl
    rw [f_X7_read_L14] at h
    refine lv_iload_n hx hb dX7_read_14 rfl (lv_at hl 3 rfl) ?_
    refine lv_bipush (v := 14) hx hb dX7_read_15 (by decide) ?_
    refine lv_icmp_ge (tgt := 151) hx hb dX7_read_17 (by decide) (fun c5 => ?_) (fun c5 => ?_)
    · rw [if_pos c5] at h
      exact hk v2 v3 M h _ _ _ hP hS (lv_sub hl [0, 1, 2, 3] rfl)
    · rw [if_neg c5] at h
      refine lv_aload_n hx hb dX7_read_20 rfl (lv_at hl 0 rfl) ?_
      obtain ⟨M8, e7, h⟩ := tm_bd_some h
      refine tm_backV (M0 := M8) (fun _ q => q) (tm_callV (As := []) (rest := []) ⟨hx, hb, hml, hown, hts⟩ hK hG hP hS (c_X7_nextToken l g A L hD hF M M8 e7) (cwV 0 hts gX7_read_X7_nextToken rfl rfl rfl (by decide +kernel) ⟨Nat.le_of_ble_eq_true rfl, Nat.le_of_ble_eq_true rfl⟩) (tm_recv hK hP (hF 2 (by decide)) (ci := 6) rfl (tm_mkX7 (by decide) _)) rfl hl.1 (lv_room (Nat.le_of_ble_eq_true rfl)) dX7_read_21 ⟨Nat.zero_le _, Nat.zero_le _⟩) hS (fun H locs hP hS => ?_)
      refine lv_aload_n hx hb dX7_read_24 rfl (lv_at hl 0 rfl) ?_
      obtain ⟨r9, e10, h⟩ := tm_bd_some h
      refine tm_backI (r0 := r9) (M0 := M8) (fun _ q => q) (tm_callV (As := []) (rest := []) ⟨hx, hb, hml, hown, hts⟩ hK hG hP hS (c_X7_word l g A L hD hF M8 r9 e10) (cwV 0 hts gX7_read_X7_word rfl rfl rfl (by decide +kernel) ⟨Nat.le_of_ble_eq_true rfl, Nat.le_of_ble_eq_true rfl⟩) (tm_recv hK hP (hF 2 (by decide)) (ci := 6) rfl (tm_mkX7 (by decide) _)) rfl hl.1 (lv_room (Nat.le_of_ble_eq_true rfl)) dX7_read_25 ⟨Nat.zero_le _, Nat.zero_le _⟩) hS (fun H locs hP hS => ?_)
      refine lv_istore (lv' := [(4, .int r9), (0, .ref (g.2.2 + 2)), (1, .int w1), (2, .int v2), (3, .int v3)]) hx hb dX7_read_28 hl (by decide) rfl (fun ls hl => ?_)
      refine lv_iload hx hb dX7_read_30 (lv_at hl 0 rfl) ?_
      refine lv_iconst (v := (-1)) hx hb dX7_read_32 (by decide) ?_
      refine lv_icmp_eq (tgt := 50) hx hb dX7_read_33 (by decide) (fun c11 => ?_) (fun c11 => ?_)
      · rw [if_pos c11] at h
        refine lv_aload_n hx hb dX7_read_50 rfl (lv_at hl 1 rfl) ?_
        refine tm_get (C := RX7) (T := TX7) (N := 8) (v := .int (M8 2 6)) hx hb hts nX7_read_X7 hown hK hP (hF 2 (by decide)) (tm_mkX7 (by decide) _) rfl 6 (by decide) (hts _ kX7_read_2) rfl dX7_read_51 ?_
        exact tm_iret C0 (Option.some.inj h) hP hS dX7_read_54
      · rw [if_neg c11] at h
        refine lv_iload hx hb dX7_read_36 (lv_at hl 0 rfl) ?_
        obtain ⟨r12, e13, h⟩ := tm_bd_some h
        refine tm_backI (r0 := r12) (M0 := M8) (fun _ q => q) (tm_callS (As := [.int r9]) (rest := []) ⟨hx, hb, hml, hown, hts⟩ hK hG hP hS (c_X7_isCouple l g A L hD hF M8 r9 r12 e13) (va_cwS 1 hts gX7_read_X7_isCouple rfl rfl rfl (by decide +kernel) ⟨Nat.le_of_ble_eq_true rfl, Nat.le_of_ble_eq_true rfl⟩) rfl hl.1 (lv_room (Nat.le_of_ble_eq_true rfl)) dX7_read_38 ⟨Nat.zero_le _, Nat.zero_le _⟩) hS (fun H locs hP hS => ?_)
        refine lv_if_eq (tgt := 55) hx hb dX7_read_41 (by decide) (fun c14 => ?_) (fun c14 => ?_)
        · rw [if_pos c14] at h
          refine lv_aload_n hx hb dX7_read_55 rfl (lv_at hl 1 rfl) ?_
          refine lv_iload_n hx hb dX7_read_56 rfl (lv_at hl 4 rfl) ?_
          refine lv_iload hx hb dX7_read_57 (lv_at hl 0 rfl) ?_
          obtain ⟨r15, e16, h⟩ := tm_bd_some h
          refine tm_backI (r0 := r15.1) (M0 := r15.2) (fun _ q => q) (tm_callV (As := [.int v3, .int r9]) (rest := []) ⟨hx, hb, hml, hown, hts⟩ hK hG hP hS (c_X7_readNumbers l g A L hD hF M8 v3 r9 r15 e16) (cwV 2 hts gX7_read_X7_readNumbers rfl rfl rfl (by decide +kernel) ⟨Nat.le_of_ble_eq_true rfl, Nat.le_of_ble_eq_true rfl⟩) (tm_recv hK hP (hF 2 (by decide)) (ci := 6) rfl (tm_mkX7 (by decide) _)) rfl hl.1 (lv_room (Nat.le_of_ble_eq_true rfl)) dX7_read_59 ⟨Nat.zero_le _, Nat.zero_le _⟩) hS (fun H locs hP hS => ?_)
          refine lv_if_ne (tgt := 70) hx hb dX7_read_62 (by decide) (fun c17 => ?_) (fun c17 => ?_)
          · rw [if_neg c17] at h
            refine lv_aload_n hx hb dX7_read_70 rfl (lv_at hl 1 rfl) ?_
            refine tm_get (C := RX7) (T := TX7) (N := 8) (v := .ref (g.2.2 + 4)) hx hb hts nX7_read_X7 hown hK hP (hF 2 (by decide)) (tm_mkX7 (by decide) _) rfl 0 (by decide) (hts _ kX7_read_3) rfl dX7_read_71 ?_
            refine lv_iload_n hx hb dX7_read_74 rfl (lv_at hl 4 rfl) ?_
            refine lv_iload hx hb dX7_read_75 (lv_at hl 0 rfl) ?_
            obtain ⟨M18, e19, h⟩ := tm_bd_some h
            refine tm_iast hx hb hK hP hD hS (hF 4 (by decide)) (tm_mkI (n := 14) (by decide) (by decide)) e19 dX7_read_77 (fun H locs hP hS => ?_)
            refine lv_aload_n hx hb dX7_read_78 rfl (lv_at hl 1 rfl) ?_
            refine lv_iload_n hx hb dX7_read_79 rfl (lv_at hl 4 rfl) ?_
            refine lv_iconst (v := 1) hx hb dX7_read_80 (by decide) ?_
            refine lv_iadd hx hb dX7_read_81 ?_
            obtain ⟨M20, e21, h⟩ := tm_bd_some h
            refine tm_put (C := RX7) (T := TX7) (N := 8) (ty := .int) (x := v3 + 1) hx hb hts nX7_read_X7 tyX7 tyX7_ok nmX7 hown hK hP hD hS (hF 2 (by decide)) (tm_mkX7 (by decide)) rfl 3 (by decide) (hts _ kX7_read_0) rfl (by decide +kernel) rfl rfl (Nat.le_of_ble_eq_true rfl) rfl (Option.some.inj e21) dX7_read_82 (fun H locs hP hS => ?_)
            refine lv_iload hx hb dX7_read_85 (lv_at hl 0 rfl) ?_
            refine lv_if_ne (tgt := 94) hx hb dX7_read_87 (by decide) (fun c22 => ?_) (fun c22 => ?_)
            · rw [if_neg c22] at h
              refine lv_iload hx hb dX7_read_94 (lv_at hl 0 rfl) ?_
              obtain ⟨r23, e24, h⟩ := tm_bd_some h
              refine tm_backI (r0 := r23) (M0 := M20) (fun _ q => q) (tm_callS (As := [.int r9]) (rest := []) ⟨hx, hb, hml, hown, hts⟩ hK hG hP hS (c_X7_isCouple l g A L hD hF M20 r9 r23 e24) (va_cwS 1 hts gX7_read_X7_isCouple rfl rfl rfl (by decide +kernel) ⟨Nat.le_of_ble_eq_true rfl, Nat.le_of_ble_eq_true rfl⟩) rfl hl.1 (lv_room (Nat.le_of_ble_eq_true rfl)) dX7_read_96 ⟨Nat.zero_le _, Nat.zero_le _⟩) hS (fun H locs hP hS => ?_)
              refine lv_if_eq (tgt := 108) hx hb dX7_read_99 (by decide) (fun c25 => ?_) (fun c25 => ?_)
              · rw [if_pos c25] at h
                refine lv_iload_n hx hb dX7_read_108 rfl (lv_at hl 3 rfl) ?_
                refine lv_istore_n (lv' := [(2, .int v2), (4, .int r9), (0, .ref (g.2.2 + 2)), (1, .int w1), (3, .int v3)]) hx hb dX7_read_109 rfl hl (by decide) rfl (fun ls hl => ?_)
                refine lv_aload_n hx hb dX7_read_110 rfl (lv_at hl 2 rfl) ?_
                obtain ⟨M28, e27, h⟩ := tm_bd_some h
                refine tm_backV (M0 := M28) (fun _ q => q) (tm_callV (As := []) (rest := []) ⟨hx, hb, hml, hown, hts⟩ hK hG hP hS (c_X7_nextToken l g A L hD hF M20 M28 e27) (cwV 0 hts gX7_read_X7_nextToken rfl rfl rfl (by decide +kernel) ⟨Nat.le_of_ble_eq_true rfl, Nat.le_of_ble_eq_true rfl⟩) (tm_recv hK hP (hF 2 (by decide)) (ci := 6) rfl (tm_mkX7 (by decide) _)) rfl hl.1 (lv_room (Nat.le_of_ble_eq_true rfl)) dX7_read_111 ⟨Nat.zero_le _, Nat.zero_le _⟩) hS (fun H locs hP hS => ?_)
                refine lv_aload_n hx hb dX7_read_114 rfl (lv_at hl 2 rfl) ?_
                refine tm_get (C := RX7) (T := TX7) (N := 8) (v := .int (M28 2 6)) hx hb hts nX7_read_X7 hown hK hP (hF 2 (by decide)) (tm_mkX7 (by decide) _) rfl 6 (by decide) (hts _ kX7_read_2) rfl dX7_read_115 ?_
                refine lv_aload_n hx hb dX7_read_118 rfl (lv_at hl 2 rfl) ?_
                refine tm_get (C := RX7) (T := TX7) (N := 8) (v := .int (M28 2 4)) hx hb hts nX7_read_X7 hown hK hP (hF 2 (by decide)) (tm_mkX7 (by decide) _) rfl 4 (by decide) (hts _ kX7_read_4) rfl dX7_read_119 ?_
                refine lv_icmp_lt (tgt := 127) hx hb dX7_read_122 (by decide) (fun c29 => ?_) (fun c29 => ?_)
                · rw [if_pos c29] at h
                  refine lv_aload_n hx hb dX7_read_127 rfl (lv_at hl 2 rfl) ?_
                  refine lv_aload_n hx hb dX7_read_128 rfl (lv_at hl 2 rfl) ?_
                  refine tm_get (C := RX7) (T := TX7) (N := 8) (v := .int (M28 2 6)) hx hb hts nX7_read_X7 hown hK hP (hF 2 (by decide)) (tm_mkX7 (by decide) _) rfl 6 (by decide) (hts _ kX7_read_2) rfl dX7_read_129 ?_
                  obtain ⟨r30, e31, h⟩ := tm_bd_some h
                  refine tm_backI (r0 := r30) (M0 := M28) (fun _ q => q) (tm_callV (As := [.int (M28 2 6)]) (rest := []) ⟨hx, hb, hml, hown, hts⟩ hK hG hP hS (c_X7_letterAt l g A L hD hF M28 (M28 2 6) r30 e31) (cwV 1 hts gX7_read_X7_letterAt rfl rfl rfl (by decide +kernel) ⟨Nat.le_of_ble_eq_true rfl, Nat.le_of_ble_eq_true rfl⟩) (tm_recv hK hP (hF 2 (by decide)) (ci := 6) rfl (tm_mkX7 (by decide) _)) rfl hl.1 (lv_room (Nat.le_of_ble_eq_true rfl)) dX7_read_132 ⟨Nat.zero_le _, Nat.zero_le _⟩) hS (fun H locs hP hS => ?_)
                  refine lv_bipush (v := 59) hx hb dX7_read_135 (by decide) ?_
                  refine lv_icmp_eq (tgt := 145) hx hb dX7_read_137 (by decide) (fun c32 => ?_) (fun c32 => ?_)
                  · rw [if_pos c32] at h
                    refine lv_iinc (v := v3 + 1) (lv' := [(3, .int (v3 + 1)), (2, .int v2), (4, .int r9), (0, .ref (g.2.2 + 2)), (1, .int w1)]) hx hb dX7_read_145 hl (k := 4) rfl rfl (by decide) rfl (fun ls hl => ?_)
                    refine lv_goto (tgt := 14) hx hb dX7_read_148 (by decide) ?_
                    exact ih v2 (v3 + 1) M28 h _ _ _ hP hS (lv_sub hl [3, 4, 1, 0] rfl)
                  · rw [if_neg c32] at h
                    refine lv_aload_n hx hb dX7_read_140 rfl (lv_at hl 2 rfl) ?_
                    refine tm_get (C := RX7) (T := TX7) (N := 8) (v := .int (M28 2 6)) hx hb hts nX7_read_X7 hown hK hP (hF 2 (by decide)) (tm_mkX7 (by decide) _) rfl 6 (by decide) (hts _ kX7_read_2) rfl dX7_read_141 ?_
                    exact tm_iret C0 (Option.some.inj h) hP hS dX7_read_144
                · rw [if_neg c29] at h
                  refine lv_iconst (v := (-1)) hx hb dX7_read_125 (by decide) ?_
                  exact tm_iret C0 (Option.some.inj h) hP hS dX7_read_126
              · rw [if_neg c25] at h
                refine lv_iload_n hx hb dX7_read_102 rfl (lv_at hl 3 rfl) ?_
                refine lv_iconst (v := 1) hx hb dX7_read_103 (by decide) ?_
                refine lv_iadd hx hb dX7_read_104 ?_
                refine lv_goto (tgt := 109) hx hb dX7_read_105 (by decide) ?_
                refine tm_nam h (fun x33 h => ?_)
                refine lv_istore_n (lv' := [(2, .int x33), (4, .int r9), (0, .ref (g.2.2 + 2)), (1, .int w1), (3, .int v3)]) hx hb dX7_read_109 rfl hl (by decide) rfl (fun ls hl => ?_)
                refine lv_aload_n hx hb dX7_read_110 rfl (lv_at hl 2 rfl) ?_
                obtain ⟨M36, e35, h⟩ := tm_bd_some h
                refine tm_backV (M0 := M36) (fun _ q => q) (tm_callV (As := []) (rest := []) ⟨hx, hb, hml, hown, hts⟩ hK hG hP hS (c_X7_nextToken l g A L hD hF M20 M36 e35) (cwV 0 hts gX7_read_X7_nextToken rfl rfl rfl (by decide +kernel) ⟨Nat.le_of_ble_eq_true rfl, Nat.le_of_ble_eq_true rfl⟩) (tm_recv hK hP (hF 2 (by decide)) (ci := 6) rfl (tm_mkX7 (by decide) _)) rfl hl.1 (lv_room (Nat.le_of_ble_eq_true rfl)) dX7_read_111 ⟨Nat.zero_le _, Nat.zero_le _⟩) hS (fun H locs hP hS => ?_)
                refine lv_aload_n hx hb dX7_read_114 rfl (lv_at hl 2 rfl) ?_
                refine tm_get (C := RX7) (T := TX7) (N := 8) (v := .int (M36 2 6)) hx hb hts nX7_read_X7 hown hK hP (hF 2 (by decide)) (tm_mkX7 (by decide) _) rfl 6 (by decide) (hts _ kX7_read_2) rfl dX7_read_115 ?_
                refine lv_aload_n hx hb dX7_read_118 rfl (lv_at hl 2 rfl) ?_
                refine tm_get (C := RX7) (T := TX7) (N := 8) (v := .int (M36 2 4)) hx hb hts nX7_read_X7 hown hK hP (hF 2 (by decide)) (tm_mkX7 (by decide) _) rfl 4 (by decide) (hts _ kX7_read_4) rfl dX7_read_119 ?_
                refine lv_icmp_lt (tgt := 127) hx hb dX7_read_122 (by decide) (fun c37 => ?_) (fun c37 => ?_)
                · rw [if_pos c37] at h
                  refine lv_aload_n hx hb dX7_read_127 rfl (lv_at hl 2 rfl) ?_
                  refine lv_aload_n hx hb dX7_read_128 rfl (lv_at hl 2 rfl) ?_
                  refine tm_get (C := RX7) (T := TX7) (N := 8) (v := .int (M36 2 6)) hx hb hts nX7_read_X7 hown hK hP (hF 2 (by decide)) (tm_mkX7 (by decide) _) rfl 6 (by decide) (hts _ kX7_read_2) rfl dX7_read_129 ?_
                  obtain ⟨r38, e39, h⟩ := tm_bd_some h
                  refine tm_backI (r0 := r38) (M0 := M36) (fun _ q => q) (tm_callV (As := [.int (M36 2 6)]) (rest := []) ⟨hx, hb, hml, hown, hts⟩ hK hG hP hS (c_X7_letterAt l g A L hD hF M36 (M36 2 6) r38 e39) (cwV 1 hts gX7_read_X7_letterAt rfl rfl rfl (by decide +kernel) ⟨Nat.le_of_ble_eq_true rfl, Nat.le_of_ble_eq_true rfl⟩) (tm_recv hK hP (hF 2 (by decide)) (ci := 6) rfl (tm_mkX7 (by decide) _)) rfl hl.1 (lv_room (Nat.le_of_ble_eq_true rfl)) dX7_read_132 ⟨Nat.zero_le _, Nat.zero_le _⟩) hS (fun H locs hP hS => ?_)
                  refine lv_bipush (v := 59) hx hb dX7_read_135 (by decide) ?_
                  refine lv_icmp_eq (tgt := 145) hx hb dX7_read_137 (by decide) (fun c40 => ?_) (fun c40 => ?_)
                  · rw [if_pos c40] at h
                    refine lv_iinc (v := v3 + 1) (lv' := [(3, .int (v3 + 1)), (2, .int x33), (4, .int r9), (0, .ref (g.2.2 + 2)), (1, .int w1)]) hx hb dX7_read_145 hl (k := 4) rfl rfl (by decide) rfl (fun ls hl => ?_)
                    refine lv_goto (tgt := 14) hx hb dX7_read_148 (by decide) ?_
                    exact ih x33 (v3 + 1) M36 h _ _ _ hP hS (lv_sub hl [3, 4, 1, 0] rfl)
                  · rw [if_neg c40] at h
                    refine lv_aload_n hx hb dX7_read_140 rfl (lv_at hl 2 rfl) ?_
                    refine tm_get (C := RX7) (T := TX7) (N := 8) (v := .int (M36 2 6)) hx hb hts nX7_read_X7 hown hK hP (hF 2 (by decide)) (tm_mkX7 (by decide) _) rfl 6 (by decide) (hts _ kX7_read_2) rfl dX7_read_141 ?_
                    exact tm_iret C0 (Option.some.inj h) hP hS dX7_read_144
                · rw [if_neg c37] at h
                  refine lv_iconst (v := (-1)) hx hb dX7_read_125 (by decide) ?_
                  exact tm_iret C0 (Option.some.inj h) hP hS dX7_read_126
            · rw [if_pos c22] at h
              refine lv_iconst (v := 0) hx hb dX7_read_90 (by decide) ?_
              refine lv_goto (tgt := 109) hx hb dX7_read_91 (by decide) ?_
              refine lv_istore_n (lv' := [(2, .int 0), (4, .int r9), (0, .ref (g.2.2 + 2)), (1, .int w1), (3, .int v3)]) hx hb dX7_read_109 rfl hl (by decide) rfl (fun ls hl => ?_)
              refine lv_aload_n hx hb dX7_read_110 rfl (lv_at hl 2 rfl) ?_
              obtain ⟨M43, e42, h⟩ := tm_bd_some h
              refine tm_backV (M0 := M43) (fun _ q => q) (tm_callV (As := []) (rest := []) ⟨hx, hb, hml, hown, hts⟩ hK hG hP hS (c_X7_nextToken l g A L hD hF M20 M43 e42) (cwV 0 hts gX7_read_X7_nextToken rfl rfl rfl (by decide +kernel) ⟨Nat.le_of_ble_eq_true rfl, Nat.le_of_ble_eq_true rfl⟩) (tm_recv hK hP (hF 2 (by decide)) (ci := 6) rfl (tm_mkX7 (by decide) _)) rfl hl.1 (lv_room (Nat.le_of_ble_eq_true rfl)) dX7_read_111 ⟨Nat.zero_le _, Nat.zero_le _⟩) hS (fun H locs hP hS => ?_)
              refine lv_aload_n hx hb dX7_read_114 rfl (lv_at hl 2 rfl) ?_
              refine tm_get (C := RX7) (T := TX7) (N := 8) (v := .int (M43 2 6)) hx hb hts nX7_read_X7 hown hK hP (hF 2 (by decide)) (tm_mkX7 (by decide) _) rfl 6 (by decide) (hts _ kX7_read_2) rfl dX7_read_115 ?_
              refine lv_aload_n hx hb dX7_read_118 rfl (lv_at hl 2 rfl) ?_
              refine tm_get (C := RX7) (T := TX7) (N := 8) (v := .int (M43 2 4)) hx hb hts nX7_read_X7 hown hK hP (hF 2 (by decide)) (tm_mkX7 (by decide) _) rfl 4 (by decide) (hts _ kX7_read_4) rfl dX7_read_119 ?_
              refine lv_icmp_lt (tgt := 127) hx hb dX7_read_122 (by decide) (fun c44 => ?_) (fun c44 => ?_)
              · rw [if_pos c44] at h
                refine lv_aload_n hx hb dX7_read_127 rfl (lv_at hl 2 rfl) ?_
                refine lv_aload_n hx hb dX7_read_128 rfl (lv_at hl 2 rfl) ?_
                refine tm_get (C := RX7) (T := TX7) (N := 8) (v := .int (M43 2 6)) hx hb hts nX7_read_X7 hown hK hP (hF 2 (by decide)) (tm_mkX7 (by decide) _) rfl 6 (by decide) (hts _ kX7_read_2) rfl dX7_read_129 ?_
                obtain ⟨r45, e46, h⟩ := tm_bd_some h
                refine tm_backI (r0 := r45) (M0 := M43) (fun _ q => q) (tm_callV (As := [.int (M43 2 6)]) (rest := []) ⟨hx, hb, hml, hown, hts⟩ hK hG hP hS (c_X7_letterAt l g A L hD hF M43 (M43 2 6) r45 e46) (cwV 1 hts gX7_read_X7_letterAt rfl rfl rfl (by decide +kernel) ⟨Nat.le_of_ble_eq_true rfl, Nat.le_of_ble_eq_true rfl⟩) (tm_recv hK hP (hF 2 (by decide)) (ci := 6) rfl (tm_mkX7 (by decide) _)) rfl hl.1 (lv_room (Nat.le_of_ble_eq_true rfl)) dX7_read_132 ⟨Nat.zero_le _, Nat.zero_le _⟩) hS (fun H locs hP hS => ?_)
                refine lv_bipush (v := 59) hx hb dX7_read_135 (by decide) ?_
                refine lv_icmp_eq (tgt := 145) hx hb dX7_read_137 (by decide) (fun c47 => ?_) (fun c47 => ?_)
                · rw [if_pos c47] at h
                  refine lv_iinc (v := v3 + 1) (lv' := [(3, .int (v3 + 1)), (2, .int 0), (4, .int r9), (0, .ref (g.2.2 + 2)), (1, .int w1)]) hx hb dX7_read_145 hl (k := 4) rfl rfl (by decide) rfl (fun ls hl => ?_)
                  refine lv_goto (tgt := 14) hx hb dX7_read_148 (by decide) ?_
                  exact ih 0 (v3 + 1) M43 h _ _ _ hP hS (lv_sub hl [3, 4, 1, 0] rfl)
                · rw [if_neg c47] at h
                  refine lv_aload_n hx hb dX7_read_140 rfl (lv_at hl 2 rfl) ?_
                  refine tm_get (C := RX7) (T := TX7) (N := 8) (v := .int (M43 2 6)) hx hb hts nX7_read_X7 hown hK hP (hF 2 (by decide)) (tm_mkX7 (by decide) _) rfl 6 (by decide) (hts _ kX7_read_2) rfl dX7_read_141 ?_
                  exact tm_iret C0 (Option.some.inj h) hP hS dX7_read_144
              · rw [if_neg c44] at h
                refine lv_iconst (v := (-1)) hx hb dX7_read_125 (by decide) ?_
                exact tm_iret C0 (Option.some.inj h) hP hS dX7_read_126
          · rw [if_pos c17] at h
            refine lv_aload_n hx hb dX7_read_65 rfl (lv_at hl 1 rfl) ?_
            refine tm_get (C := RX7) (T := TX7) (N := 8) (v := .int (r15.2 2 6)) hx hb hts nX7_read_X7 hown hK hP (hF 2 (by decide)) (tm_mkX7 (by decide) _) rfl 6 (by decide) (hts _ kX7_read_2) rfl dX7_read_66 ?_
            exact tm_iret C0 (Option.some.inj h) hP hS dX7_read_69
        · rw [if_neg c14] at h
          refine lv_iload_n hx hb dX7_read_44 rfl (lv_at hl 3 rfl) ?_
          refine lv_bipush (v := 6) hx hb dX7_read_45 (by decide) ?_
          refine lv_icmp_lt (tgt := 55) hx hb dX7_read_47 (by decide) (fun c48 => ?_) (fun c48 => ?_)
          · rw [if_pos c48] at h
            refine lv_aload_n hx hb dX7_read_55 rfl (lv_at hl 1 rfl) ?_
            refine lv_iload_n hx hb dX7_read_56 rfl (lv_at hl 4 rfl) ?_
            refine lv_iload hx hb dX7_read_57 (lv_at hl 0 rfl) ?_
            obtain ⟨r49, e50, h⟩ := tm_bd_some h
            refine tm_backI (r0 := r49.1) (M0 := r49.2) (fun _ q => q) (tm_callV (As := [.int v3, .int r9]) (rest := []) ⟨hx, hb, hml, hown, hts⟩ hK hG hP hS (c_X7_readNumbers l g A L hD hF M8 v3 r9 r49 e50) (cwV 2 hts gX7_read_X7_readNumbers rfl rfl rfl (by decide +kernel) ⟨Nat.le_of_ble_eq_true rfl, Nat.le_of_ble_eq_true rfl⟩) (tm_recv hK hP (hF 2 (by decide)) (ci := 6) rfl (tm_mkX7 (by decide) _)) rfl hl.1 (lv_room (Nat.le_of_ble_eq_true rfl)) dX7_read_59 ⟨Nat.zero_le _, Nat.zero_le _⟩) hS (fun H locs hP hS => ?_)
            refine lv_if_ne (tgt := 70) hx hb dX7_read_62 (by decide) (fun c51 => ?_) (fun c51 => ?_)
            · rw [if_neg c51] at h
              refine lv_aload_n hx hb dX7_read_70 rfl (lv_at hl 1 rfl) ?_
              refine tm_get (C := RX7) (T := TX7) (N := 8) (v := .ref (g.2.2 + 4)) hx hb hts nX7_read_X7 hown hK hP (hF 2 (by decide)) (tm_mkX7 (by decide) _) rfl 0 (by decide) (hts _ kX7_read_3) rfl dX7_read_71 ?_
              refine lv_iload_n hx hb dX7_read_74 rfl (lv_at hl 4 rfl) ?_
              refine lv_iload hx hb dX7_read_75 (lv_at hl 0 rfl) ?_
              obtain ⟨M52, e53, h⟩ := tm_bd_some h
              refine tm_iast hx hb hK hP hD hS (hF 4 (by decide)) (tm_mkI (n := 14) (by decide) (by decide)) e53 dX7_read_77 (fun H locs hP hS => ?_)
              refine lv_aload_n hx hb dX7_read_78 rfl (lv_at hl 1 rfl) ?_
              refine lv_iload_n hx hb dX7_read_79 rfl (lv_at hl 4 rfl) ?_
              refine lv_iconst (v := 1) hx hb dX7_read_80 (by decide) ?_
              refine lv_iadd hx hb dX7_read_81 ?_
              obtain ⟨M54, e55, h⟩ := tm_bd_some h
              refine tm_put (C := RX7) (T := TX7) (N := 8) (ty := .int) (x := v3 + 1) hx hb hts nX7_read_X7 tyX7 tyX7_ok nmX7 hown hK hP hD hS (hF 2 (by decide)) (tm_mkX7 (by decide)) rfl 3 (by decide) (hts _ kX7_read_0) rfl (by decide +kernel) rfl rfl (Nat.le_of_ble_eq_true rfl) rfl (Option.some.inj e55) dX7_read_82 (fun H locs hP hS => ?_)
              refine lv_iload hx hb dX7_read_85 (lv_at hl 0 rfl) ?_
              refine lv_if_ne (tgt := 94) hx hb dX7_read_87 (by decide) (fun c56 => ?_) (fun c56 => ?_)
              · rw [if_neg c56] at h
                refine lv_iload hx hb dX7_read_94 (lv_at hl 0 rfl) ?_
                obtain ⟨r57, e58, h⟩ := tm_bd_some h
                refine tm_backI (r0 := r57) (M0 := M54) (fun _ q => q) (tm_callS (As := [.int r9]) (rest := []) ⟨hx, hb, hml, hown, hts⟩ hK hG hP hS (c_X7_isCouple l g A L hD hF M54 r9 r57 e58) (va_cwS 1 hts gX7_read_X7_isCouple rfl rfl rfl (by decide +kernel) ⟨Nat.le_of_ble_eq_true rfl, Nat.le_of_ble_eq_true rfl⟩) rfl hl.1 (lv_room (Nat.le_of_ble_eq_true rfl)) dX7_read_96 ⟨Nat.zero_le _, Nat.zero_le _⟩) hS (fun H locs hP hS => ?_)
                refine lv_if_eq (tgt := 108) hx hb dX7_read_99 (by decide) (fun c59 => ?_) (fun c59 => ?_)
                · rw [if_pos c59] at h
                  refine lv_iload_n hx hb dX7_read_108 rfl (lv_at hl 3 rfl) ?_
                  refine lv_istore_n (lv' := [(2, .int v2), (4, .int r9), (0, .ref (g.2.2 + 2)), (1, .int w1), (3, .int v3)]) hx hb dX7_read_109 rfl hl (by decide) rfl (fun ls hl => ?_)
                  refine lv_aload_n hx hb dX7_read_110 rfl (lv_at hl 2 rfl) ?_
                  obtain ⟨M62, e61, h⟩ := tm_bd_some h
                  refine tm_backV (M0 := M62) (fun _ q => q) (tm_callV (As := []) (rest := []) ⟨hx, hb, hml, hown, hts⟩ hK hG hP hS (c_X7_nextToken l g A L hD hF M54 M62 e61) (cwV 0 hts gX7_read_X7_nextToken rfl rfl rfl (by decide +kernel) ⟨Nat.le_of_ble_eq_true rfl, Nat.le_of_ble_eq_true rfl⟩) (tm_recv hK hP (hF 2 (by decide)) (ci := 6) rfl (tm_mkX7 (by decide) _)) rfl hl.1 (lv_room (Nat.le_of_ble_eq_true rfl)) dX7_read_111 ⟨Nat.zero_le _, Nat.zero_le _⟩) hS (fun H locs hP hS => ?_)
                  refine lv_aload_n hx hb dX7_read_114 rfl (lv_at hl 2 rfl) ?_
                  refine tm_get (C := RX7) (T := TX7) (N := 8) (v := .int (M62 2 6)) hx hb hts nX7_read_X7 hown hK hP (hF 2 (by decide)) (tm_mkX7 (by decide) _) rfl 6 (by decide) (hts _ kX7_read_2) rfl dX7_read_115 ?_
                  refine lv_aload_n hx hb dX7_read_118 rfl (lv_at hl 2 rfl) ?_
                  refine tm_get (C := RX7) (T := TX7) (N := 8) (v := .int (M62 2 4)) hx hb hts nX7_read_X7 hown hK hP (hF 2 (by decide)) (tm_mkX7 (by decide) _) rfl 4 (by decide) (hts _ kX7_read_4) rfl dX7_read_119 ?_
                  refine lv_icmp_lt (tgt := 127) hx hb dX7_read_122 (by decide) (fun c63 => ?_) (fun c63 => ?_)
                  · rw [if_pos c63] at h
                    refine lv_aload_n hx hb dX7_read_127 rfl (lv_at hl 2 rfl) ?_
                    refine lv_aload_n hx hb dX7_read_128 rfl (lv_at hl 2 rfl) ?_
                    refine tm_get (C := RX7) (T := TX7) (N := 8) (v := .int (M62 2 6)) hx hb hts nX7_read_X7 hown hK hP (hF 2 (by decide)) (tm_mkX7 (by decide) _) rfl 6 (by decide) (hts _ kX7_read_2) rfl dX7_read_129 ?_
                    obtain ⟨r64, e65, h⟩ := tm_bd_some h
                    refine tm_backI (r0 := r64) (M0 := M62) (fun _ q => q) (tm_callV (As := [.int (M62 2 6)]) (rest := []) ⟨hx, hb, hml, hown, hts⟩ hK hG hP hS (c_X7_letterAt l g A L hD hF M62 (M62 2 6) r64 e65) (cwV 1 hts gX7_read_X7_letterAt rfl rfl rfl (by decide +kernel) ⟨Nat.le_of_ble_eq_true rfl, Nat.le_of_ble_eq_true rfl⟩) (tm_recv hK hP (hF 2 (by decide)) (ci := 6) rfl (tm_mkX7 (by decide) _)) rfl hl.1 (lv_room (Nat.le_of_ble_eq_true rfl)) dX7_read_132 ⟨Nat.zero_le _, Nat.zero_le _⟩) hS (fun H locs hP hS => ?_)
                    refine lv_bipush (v := 59) hx hb dX7_read_135 (by decide) ?_
                    refine lv_icmp_eq (tgt := 145) hx hb dX7_read_137 (by decide) (fun c66 => ?_) (fun c66 => ?_)
                    · rw [if_pos c66] at h
                      refine lv_iinc (v := v3 + 1) (lv' := [(3, .int (v3 + 1)), (2, .int v2), (4, .int r9), (0, .ref (g.2.2 + 2)), (1, .int w1)]) hx hb dX7_read_145 hl (k := 4) rfl rfl (by decide) rfl (fun ls hl => ?_)
                      refine lv_goto (tgt := 14) hx hb dX7_read_148 (by decide) ?_
                      exact ih v2 (v3 + 1) M62 h _ _ _ hP hS (lv_sub hl [3, 4, 1, 0] rfl)
                    · rw [if_neg c66] at h
                      refine lv_aload_n hx hb dX7_read_140 rfl (lv_at hl 2 rfl) ?_
                      refine tm_get (C := RX7) (T := TX7) (N := 8) (v := .int (M62 2 6)) hx hb hts nX7_read_X7 hown hK hP (hF 2 (by decide)) (tm_mkX7 (by decide) _) rfl 6 (by decide) (hts _ kX7_read_2) rfl dX7_read_141 ?_
                      exact tm_iret C0 (Option.some.inj h) hP hS dX7_read_144
                  · rw [if_neg c63] at h
                    refine lv_iconst (v := (-1)) hx hb dX7_read_125 (by decide) ?_
                    exact tm_iret C0 (Option.some.inj h) hP hS dX7_read_126
                · rw [if_neg c59] at h
                  refine lv_iload_n hx hb dX7_read_102 rfl (lv_at hl 3 rfl) ?_
                  refine lv_iconst (v := 1) hx hb dX7_read_103 (by decide) ?_
                  refine lv_iadd hx hb dX7_read_104 ?_
                  refine lv_goto (tgt := 109) hx hb dX7_read_105 (by decide) ?_
                  refine tm_nam h (fun x67 h => ?_)
                  refine lv_istore_n (lv' := [(2, .int x67), (4, .int r9), (0, .ref (g.2.2 + 2)), (1, .int w1), (3, .int v3)]) hx hb dX7_read_109 rfl hl (by decide) rfl (fun ls hl => ?_)
                  refine lv_aload_n hx hb dX7_read_110 rfl (lv_at hl 2 rfl) ?_
                  obtain ⟨M70, e69, h⟩ := tm_bd_some h
                  refine tm_backV (M0 := M70) (fun _ q => q) (tm_callV (As := []) (rest := []) ⟨hx, hb, hml, hown, hts⟩ hK hG hP hS (c_X7_nextToken l g A L hD hF M54 M70 e69) (cwV 0 hts gX7_read_X7_nextToken rfl rfl rfl (by decide +kernel) ⟨Nat.le_of_ble_eq_true rfl, Nat.le_of_ble_eq_true rfl⟩) (tm_recv hK hP (hF 2 (by decide)) (ci := 6) rfl (tm_mkX7 (by decide) _)) rfl hl.1 (lv_room (Nat.le_of_ble_eq_true rfl)) dX7_read_111 ⟨Nat.zero_le _, Nat.zero_le _⟩) hS (fun H locs hP hS => ?_)
                  refine lv_aload_n hx hb dX7_read_114 rfl (lv_at hl 2 rfl) ?_
                  refine tm_get (C := RX7) (T := TX7) (N := 8) (v := .int (M70 2 6)) hx hb hts nX7_read_X7 hown hK hP (hF 2 (by decide)) (tm_mkX7 (by decide) _) rfl 6 (by decide) (hts _ kX7_read_2) rfl dX7_read_115 ?_
                  refine lv_aload_n hx hb dX7_read_118 rfl (lv_at hl 2 rfl) ?_
                  refine tm_get (C := RX7) (T := TX7) (N := 8) (v := .int (M70 2 4)) hx hb hts nX7_read_X7 hown hK hP (hF 2 (by decide)) (tm_mkX7 (by decide) _) rfl 4 (by decide) (hts _ kX7_read_4) rfl dX7_read_119 ?_
                  refine lv_icmp_lt (tgt := 127) hx hb dX7_read_122 (by decide) (fun c71 => ?_) (fun c71 => ?_)
                  · rw [if_pos c71] at h
                    refine lv_aload_n hx hb dX7_read_127 rfl (lv_at hl 2 rfl) ?_
                    refine lv_aload_n hx hb dX7_read_128 rfl (lv_at hl 2 rfl) ?_
                    refine tm_get (C := RX7) (T := TX7) (N := 8) (v := .int (M70 2 6)) hx hb hts nX7_read_X7 hown hK hP (hF 2 (by decide)) (tm_mkX7 (by decide) _) rfl 6 (by decide) (hts _ kX7_read_2) rfl dX7_read_129 ?_
                    obtain ⟨r72, e73, h⟩ := tm_bd_some h
                    refine tm_backI (r0 := r72) (M0 := M70) (fun _ q => q) (tm_callV (As := [.int (M70 2 6)]) (rest := []) ⟨hx, hb, hml, hown, hts⟩ hK hG hP hS (c_X7_letterAt l g A L hD hF M70 (M70 2 6) r72 e73) (cwV 1 hts gX7_read_X7_letterAt rfl rfl rfl (by decide +kernel) ⟨Nat.le_of_ble_eq_true rfl, Nat.le_of_ble_eq_true rfl⟩) (tm_recv hK hP (hF 2 (by decide)) (ci := 6) rfl (tm_mkX7 (by decide) _)) rfl hl.1 (lv_room (Nat.le_of_ble_eq_true rfl)) dX7_read_132 ⟨Nat.zero_le _, Nat.zero_le _⟩) hS (fun H locs hP hS => ?_)
                    refine lv_bipush (v := 59) hx hb dX7_read_135 (by decide) ?_
                    refine lv_icmp_eq (tgt := 145) hx hb dX7_read_137 (by decide) (fun c74 => ?_) (fun c74 => ?_)
                    · rw [if_pos c74] at h
                      refine lv_iinc (v := v3 + 1) (lv' := [(3, .int (v3 + 1)), (2, .int x67), (4, .int r9), (0, .ref (g.2.2 + 2)), (1, .int w1)]) hx hb dX7_read_145 hl (k := 4) rfl rfl (by decide) rfl (fun ls hl => ?_)
                      refine lv_goto (tgt := 14) hx hb dX7_read_148 (by decide) ?_
                      exact ih x67 (v3 + 1) M70 h _ _ _ hP hS (lv_sub hl [3, 4, 1, 0] rfl)
                    · rw [if_neg c74] at h
                      refine lv_aload_n hx hb dX7_read_140 rfl (lv_at hl 2 rfl) ?_
                      refine tm_get (C := RX7) (T := TX7) (N := 8) (v := .int (M70 2 6)) hx hb hts nX7_read_X7 hown hK hP (hF 2 (by decide)) (tm_mkX7 (by decide) _) rfl 6 (by decide) (hts _ kX7_read_2) rfl dX7_read_141 ?_
                      exact tm_iret C0 (Option.some.inj h) hP hS dX7_read_144
                  · rw [if_neg c71] at h
                    refine lv_iconst (v := (-1)) hx hb dX7_read_125 (by decide) ?_
                    exact tm_iret C0 (Option.some.inj h) hP hS dX7_read_126
              · rw [if_pos c56] at h
                refine lv_iconst (v := 0) hx hb dX7_read_90 (by decide) ?_
                refine lv_goto (tgt := 109) hx hb dX7_read_91 (by decide) ?_
                refine lv_istore_n (lv' := [(2, .int 0), (4, .int r9), (0, .ref (g.2.2 + 2)), (1, .int w1), (3, .int v3)]) hx hb dX7_read_109 rfl hl (by decide) rfl (fun ls hl => ?_)
                refine lv_aload_n hx hb dX7_read_110 rfl (lv_at hl 2 rfl) ?_
                obtain ⟨M77, e76, h⟩ := tm_bd_some h
                refine tm_backV (M0 := M77) (fun _ q => q) (tm_callV (As := []) (rest := []) ⟨hx, hb, hml, hown, hts⟩ hK hG hP hS (c_X7_nextToken l g A L hD hF M54 M77 e76) (cwV 0 hts gX7_read_X7_nextToken rfl rfl rfl (by decide +kernel) ⟨Nat.le_of_ble_eq_true rfl, Nat.le_of_ble_eq_true rfl⟩) (tm_recv hK hP (hF 2 (by decide)) (ci := 6) rfl (tm_mkX7 (by decide) _)) rfl hl.1 (lv_room (Nat.le_of_ble_eq_true rfl)) dX7_read_111 ⟨Nat.zero_le _, Nat.zero_le _⟩) hS (fun H locs hP hS => ?_)
                refine lv_aload_n hx hb dX7_read_114 rfl (lv_at hl 2 rfl) ?_
                refine tm_get (C := RX7) (T := TX7) (N := 8) (v := .int (M77 2 6)) hx hb hts nX7_read_X7 hown hK hP (hF 2 (by decide)) (tm_mkX7 (by decide) _) rfl 6 (by decide) (hts _ kX7_read_2) rfl dX7_read_115 ?_
                refine lv_aload_n hx hb dX7_read_118 rfl (lv_at hl 2 rfl) ?_
                refine tm_get (C := RX7) (T := TX7) (N := 8) (v := .int (M77 2 4)) hx hb hts nX7_read_X7 hown hK hP (hF 2 (by decide)) (tm_mkX7 (by decide) _) rfl 4 (by decide) (hts _ kX7_read_4) rfl dX7_read_119 ?_
                refine lv_icmp_lt (tgt := 127) hx hb dX7_read_122 (by decide) (fun c78 => ?_) (fun c78 => ?_)
                · rw [if_pos c78] at h
                  refine lv_aload_n hx hb dX7_read_127 rfl (lv_at hl 2 rfl) ?_
                  refine lv_aload_n hx hb dX7_read_128 rfl (lv_at hl 2 rfl) ?_
                  refine tm_get (C := RX7) (T := TX7) (N := 8) (v := .int (M77 2 6)) hx hb hts nX7_read_X7 hown hK hP (hF 2 (by decide)) (tm_mkX7 (by decide) _) rfl 6 (by decide) (hts _ kX7_read_2) rfl dX7_read_129 ?_
                  obtain ⟨r79, e80, h⟩ := tm_bd_some h
                  refine tm_backI (r0 := r79) (M0 := M77) (fun _ q => q) (tm_callV (As := [.int (M77 2 6)]) (rest := []) ⟨hx, hb, hml, hown, hts⟩ hK hG hP hS (c_X7_letterAt l g A L hD hF M77 (M77 2 6) r79 e80) (cwV 1 hts gX7_read_X7_letterAt rfl rfl rfl (by decide +kernel) ⟨Nat.le_of_ble_eq_true rfl, Nat.le_of_ble_eq_true rfl⟩) (tm_recv hK hP (hF 2 (by decide)) (ci := 6) rfl (tm_mkX7 (by decide) _)) rfl hl.1 (lv_room (Nat.le_of_ble_eq_true rfl)) dX7_read_132 ⟨Nat.zero_le _, Nat.zero_le _⟩) hS (fun H locs hP hS => ?_)
                  refine lv_bipush (v := 59) hx hb dX7_read_135 (by decide) ?_
                  refine lv_icmp_eq (tgt := 145) hx hb dX7_read_137 (by decide) (fun c81 => ?_) (fun c81 => ?_)
                  · rw [if_pos c81] at h
                    refine lv_iinc (v := v3 + 1) (lv' := [(3, .int (v3 + 1)), (2, .int 0), (4, .int r9), (0, .ref (g.2.2 + 2)), (1, .int w1)]) hx hb dX7_read_145 hl (k := 4) rfl rfl (by decide) rfl (fun ls hl => ?_)
                    refine lv_goto (tgt := 14) hx hb dX7_read_148 (by decide) ?_
                    exact ih 0 (v3 + 1) M77 h _ _ _ hP hS (lv_sub hl [3, 4, 1, 0] rfl)
                  · rw [if_neg c81] at h
                    refine lv_aload_n hx hb dX7_read_140 rfl (lv_at hl 2 rfl) ?_
                    refine tm_get (C := RX7) (T := TX7) (N := 8) (v := .int (M77 2 6)) hx hb hts nX7_read_X7 hown hK hP (hF 2 (by decide)) (tm_mkX7 (by decide) _) rfl 6 (by decide) (hts _ kX7_read_2) rfl dX7_read_141 ?_
                    exact tm_iret C0 (Option.some.inj h) hP hS dX7_read_144
                · rw [if_neg c78] at h
                  refine lv_iconst (v := (-1)) hx hb dX7_read_125 (by decide) ?_
                  exact tm_iret C0 (Option.some.inj h) hP hS dX7_read_126
            · rw [if_pos c51] at h
              refine lv_aload_n hx hb dX7_read_65 rfl (lv_at hl 1 rfl) ?_
              refine tm_get (C := RX7) (T := TX7) (N := 8) (v := .int (r49.2 2 6)) hx hb hts nX7_read_X7 hown hK hP (hF 2 (by decide)) (tm_mkX7 (by decide) _) rfl 6 (by decide) (hts _ kX7_read_2) rfl dX7_read_66 ?_
              exact tm_iret C0 (Option.some.inj h) hP hS dX7_read_69
          · rw [if_neg c48] at h
            refine lv_aload_n hx hb dX7_read_50 rfl (lv_at hl 1 rfl) ?_
            refine tm_get (C := RX7) (T := TX7) (N := 8) (v := .int (M8 2 6)) hx hb hts nX7_read_X7 hown hK hP (hF 2 (by decide)) (tm_mkX7 (by decide) _) rfl 6 (by decide) (hts _ kX7_read_2) rfl dX7_read_51 ?_
            exact tm_iret C0 (Option.some.inj h) hP hS dX7_read_54
set_option maxHeartbeats 4000000 in
set_option maxRecDepth 100000 in
theorem c_X7_read (l : Launch) (g : tm_G) (A : Nat → Prop) (L : List Nat) (hD : ∀ M, va_D A (tm_ws g L M)) (hF : ∀ o, tm_all o → o ∈ L) (M : tm_M) (p1 : Int32) (R0 : Int32 × tm_M) (h : f_X7_read M p1 = some R0) : Met l yX7_read wsX7_read { frames := 6, cells := 0, slots := 0, locals := 131 } (tm_PC g A L M [.ref (g.2.2 + 2), .int p1]) (tm_QI g A L R0) 0 0 A := by
  refine tm_start (cc := cX7_read) (nL := 5) (ret := (some .int)) (F := tm_all) (plainFor_of_name (by decide)) rfl (Nat.le_of_ble_eq_true rfl) hD hF (fun p e s m args below meth c ls C0 hP hS hl => ?_)
  have hl : lv_has ls 5 [(0, .ref (g.2.2 + 2)), (1, .int p1)] := hl
  have C0 : tm_C p m c cX7_read 5 s args wsX7_read RX7 meth (some .int) g A L tm_all := C0
  obtain ⟨⟨hx, hb, hml, hown, hts⟩, hr, hlk, hK, hD, hG, hF⟩ := id C0
  unfold f_X7_read at h
  refine lv_iload_n hx hb dX7_read_0 rfl (lv_at hl 1 rfl) ?_
  refine lv_istore_n (lv' := [(2, .int p1), (0, .ref (g.2.2 + 2)), (1, .int p1)]) hx hb dX7_read_1 rfl hl (by decide) rfl (fun ls hl => ?_)
  refine lv_aload_n hx hb dX7_read_2 rfl (lv_at hl 1 rfl) ?_
  refine lv_iconst (v := 0) hx hb dX7_read_3 (by decide) ?_
  obtain ⟨M1, e2, h⟩ := tm_bd_some h
  refine tm_put (C := RX7) (T := TX7) (N := 8) (ty := .int) (x := 0) hx hb hts nX7_read_X7 tyX7 tyX7_ok nmX7 hown hK hP hD hS (hF 2 (by decide)) (tm_mkX7 (by decide)) rfl 3 (by decide) (hts _ kX7_read_0) rfl (by decide +kernel) rfl rfl (Nat.le_of_ble_eq_true rfl) rfl (Option.some.inj e2) dX7_read_4 (fun H locs hP hS => ?_)
  refine lv_aload_n hx hb dX7_read_7 rfl (lv_at hl 1 rfl) ?_
  refine lv_iconst (v := 0) hx hb dX7_read_8 (by decide) ?_
  obtain ⟨M3, e4, h⟩ := tm_bd_some h
  refine tm_put (C := RX7) (T := TX7) (N := 8) (ty := .int) (x := 0) hx hb hts nX7_read_X7 tyX7 tyX7_ok nmX7 hown hK hP hD hS (hF 2 (by decide)) (tm_mkX7 (by decide)) rfl 7 (by decide) (hts _ kX7_read_1) rfl (by decide +kernel) rfl rfl (Nat.le_of_ble_eq_true rfl) rfl (Option.some.inj e4) dX7_read_9 (fun H locs hP hS => ?_)
  refine lv_iconst (v := 0) hx hb dX7_read_12 (by decide) ?_
  refine lv_istore_n (lv' := [(3, .int 0), (2, .int p1), (0, .ref (g.2.2 + 2)), (1, .int p1)]) hx hb dX7_read_13 rfl hl (by decide) rfl (fun ls hl => ?_)
  refine w_X7_read_L14 C0 p1 _ R0 (fun v82 v83 M84 h H locs ls hP hS hl => ?_) 1000 p1 0 M3 h _ _ _ hP hS (lv_sub hl [2, 3, 1, 0] rfl)
  refine lv_aload_n hx hb dX7_read_151 rfl (lv_at hl 0 rfl) ?_
  refine tm_get (C := RX7) (T := TX7) (N := 8) (v := .int (M84 2 6)) hx hb hts nX7_read_X7 hown hK hP (hF 2 (by decide)) (tm_mkX7 (by decide) _) rfl 6 (by decide) (hts _ kX7_read_2) rfl dX7_read_152 ?_
  exact tm_iret C0 (Option.some.inj h) hP hS dX7_read_155
/-! X8_clear -/
theorem nX8_clear_X8 : ∀ w ∈ wsX80, w ∈ wsX8_clear := by decide +kernel
theorem kX8_clear_0 : Cond.fieldLink RX8 12 "QuarrelDesk$Year" "terms" "LQuarrelDesk$Terms;" ∈ wsX8_clear := by decide +kernel
theorem kX8_clear_1 : Cond.fieldLink RX8 30 "QuarrelDesk$Year" "couples" "I" ∈ wsX8_clear := by decide +kernel
theorem kX8_clear_2 : Cond.fieldLink RX8 34 "QuarrelDesk$Year" "day" "I" ∈ wsX8_clear := by decide +kernel
def f_X8_clear (M : tm_M) (o0 : Nat) : Option tm_M :=
  tm_gd (tm_shp o0 = 7) <|
  tm_gd (tm_shp (o0 + 1) = 5) <|
  (f_X6_clear M (o0 + 1)).bind fun M4 =>
  (some (tm_st M4 o0 2 0)).bind fun M6 =>
  (some (tm_st M6 o0 3 0)).bind fun M8 =>
  some M8
set_option maxHeartbeats 4000000 in
set_option maxRecDepth 100000 in
theorem c_X8_clear (l : Launch) (g : tm_G) (A : Nat → Prop) (L : List Nat) (hD : ∀ M, va_D A (tm_ws g L M)) (hF : ∀ o, tm_all o → o ∈ L) (M : tm_M) (o0 : Nat) (M0 : tm_M) (h : f_X8_clear M o0 = some M0) : Met l yX8_clear wsX8_clear { frames := 1, cells := 0, slots := 0, locals := 20 } (tm_PC g A L M [.ref (g.2.2 + o0)]) (tm_QV g A L M0) 0 0 A := by
  refine tm_start (cc := cX8_clear) (nL := 1) (ret := none) (F := tm_all) (plainFor_of_name (by decide)) rfl (Nat.le_of_ble_eq_true rfl) hD hF (fun p e s m args below meth c ls C0 hP hS hl => ?_)
  have hl : lv_has ls 1 [(0, .ref (g.2.2 + o0))] := hl
  have C0 : tm_C p m c cX8_clear 1 s args wsX8_clear RX8 meth none g A L tm_all := C0
  obtain ⟨⟨hx, hb, hml, hown, hts⟩, hr, hlk, hK, hD, hG, hF⟩ := id C0
  unfold f_X8_clear at h
  obtain ⟨g1, h⟩ := tm_gd_some h
  refine lv_aload_n hx hb dX8_clear_0 rfl (lv_at hl 0 rfl) ?_
  refine tm_get (C := RX8) (T := TX8) (N := 4) (v := .ref (g.2.2 + (o0 + 1))) hx hb hts nX8_clear_X8 hown hK hP (hF _ (tm_lt g1)) (tm_mkX8 g1 _) rfl 0 (by decide) (hts _ kX8_clear_0) rfl dX8_clear_1 ?_
  obtain ⟨g5, h⟩ := tm_gd_some h
  obtain ⟨M4, e3, h⟩ := tm_bd_some h
  refine tm_backV (M0 := M4) (fun _ q => q) (tm_callV (As := []) (rest := []) ⟨hx, hb, hml, hown, hts⟩ hK hG hP hS (c_X6_clear l g A L hD hF M (o0 + 1) M4 e3) (cwV 0 hts gX8_clear_X6_clear rfl rfl rfl (by decide +kernel) ⟨Nat.le_of_ble_eq_true rfl, Nat.le_of_ble_eq_true rfl⟩) (tm_recv hK hP (hF _ (tm_lt g5)) (ci := 5) rfl (tm_mkX6 g5 _)) rfl hl.1 (lv_room (Nat.le_of_ble_eq_true rfl)) dX8_clear_4 ⟨Nat.zero_le _, Nat.zero_le _⟩) hS (fun H locs hP hS => ?_)
  refine lv_aload_n hx hb dX8_clear_7 rfl (lv_at hl 0 rfl) ?_
  refine lv_iconst (v := 0) hx hb dX8_clear_8 (by decide) ?_
  obtain ⟨M6, e7, h⟩ := tm_bd_some h
  refine tm_put (C := RX8) (T := TX8) (N := 4) (ty := .int) (x := 0) hx hb hts nX8_clear_X8 tyX8 tyX8_ok nmX8 hown hK hP hD hS (hF _ (tm_lt g1)) (tm_mkX8 g1) rfl 2 (by decide) (hts _ kX8_clear_1) rfl (by decide +kernel) rfl rfl (Nat.le_of_ble_eq_true rfl) rfl (Option.some.inj e7) dX8_clear_9 (fun H locs hP hS => ?_)
  refine lv_aload_n hx hb dX8_clear_12 rfl (lv_at hl 0 rfl) ?_
  refine lv_iconst (v := 0) hx hb dX8_clear_13 (by decide) ?_
  obtain ⟨M8, e9, h⟩ := tm_bd_some h
  refine tm_put (C := RX8) (T := TX8) (N := 4) (ty := .int) (x := 0) hx hb hts nX8_clear_X8 tyX8 tyX8_ok nmX8 hown hK hP hD hS (hF _ (tm_lt g1)) (tm_mkX8 g1) rfl 3 (by decide) (hts _ kX8_clear_2) rfl (by decide +kernel) rfl rfl (Nat.le_of_ble_eq_true rfl) rfl (Option.some.inj e9) dX8_clear_14 (fun H locs hP hS => ?_)
  exact tm_vret C0 (Option.some.inj h) hP hS dX8_clear_17
/-! X8_copy -/
theorem nX8_copy_X8 : ∀ w ∈ wsX80, w ∈ wsX8_copy := by decide +kernel
theorem kX8_copy_0 : Cond.fieldLink RX8 12 "QuarrelDesk$Year" "terms" "LQuarrelDesk$Terms;" ∈ wsX8_copy := by decide +kernel
theorem kX8_copy_1 : Cond.fieldLink RX8 30 "QuarrelDesk$Year" "couples" "I" ∈ wsX8_copy := by decide +kernel
theorem kX8_copy_2 : Cond.fieldLink RX8 20 "QuarrelDesk$Year" "lives" "[LQuarrelDesk$Life;" ∈ wsX8_copy := by decide +kernel
theorem kX8_copy_3 : Cond.fieldLink RX8 34 "QuarrelDesk$Year" "day" "I" ∈ wsX8_copy := by decide +kernel
def f_X8_copy_L13 (k : Int32 → tm_M → Option tm_M) (o0 : Nat) (o1 : Nat) : Nat → Int32 → tm_M → Option tm_M
  | 0, _, _ => none
  | n + 1, v2, M =>
    if (M o1 2) ≤ v2 then
      k v2 M
    else
      if 6 ≤ v2 then
        k v2 M
      else
        tm_gd (tm_shp (o0 + 2) = 13) <|
        (tm_rdr (o0 + 2) 6 v2).bind fun x9 =>
        tm_gd (tm_shp (o1 + 2) = 13) <|
        (tm_rdr (o1 + 2) 6 v2).bind fun x12 =>
        tm_gd (tm_shp x9 = 0) <|
        (f_X1_copy M x9 x12).bind fun M17 =>
        f_X8_copy_L13 k o0 o1 n (v2 + 1) M17
def f_X8_copy (M : tm_M) (o0 : Nat) (o1 : Nat) : Option tm_M :=
  tm_gd (tm_shp o0 = 7) <|
  tm_gd (tm_shp o1 = 7) <|
  tm_gd (tm_shp (o0 + 1) = 5) <|
  (f_X6_copy M (o0 + 1) (o1 + 1)).bind fun M5 =>
  f_X8_copy_L13 (fun v19 M20 =>
    (some (tm_st M20 o0 2 (M20 o1 2))).bind fun M21 =>
    (some (tm_st M21 o0 3 (M21 o1 3))).bind fun M23 =>
    some M23) o0 o1 1000 0 M5
set_option maxHeartbeats 4000000 in
set_option maxRecDepth 100000 in
theorem w_X8_copy_L13 {p : Program} {l : Launch} {e : Env} {s : State} {m : MethodId} {args : Array Value} {below : List Frame} {meth : Method} {c : Code} {g : tm_G} {A : Nat → Prop} {L : List Nat} (C0 : tm_C p m c cX8_copy 3 s args wsX8_copy RX8 meth none g A L tm_all) (o0 : Nat) (o1 : Nat) (hg_o0 : tm_shp o0 = 7) (hg_o1 : tm_shp o1 = 7) (k : Int32 → tm_M → Option tm_M) (M0 : tm_M) (hk : ∀ (v2 : Int32) (M : tm_M), k v2 M = some M0 → ∀ (H : Heap) (locs : List Loc) (ls : Array Slot), va_P g.1 vwCl (tm_ws g L M) H → va_S A s.heap H locs → lv_has ls 3 [(0, .ref (g.2.2 + o0)), (1, .ref (g.2.2 + o1)), (2, .int v2)] → W p l e { frames := 1, cells := 0, slots := 0, locals := 21 } s m args below meth c H locs 0 0 (MQ below (tm_QV g A L M0) args s 0 0 A) (F0 m 48 ls [])) : ∀ (n : Nat) (v2 : Int32) (M : tm_M), f_X8_copy_L13 k o0 o1 n v2 M = some M0 → ∀ (H : Heap) (locs : List Loc) (ls : Array Slot), va_P g.1 vwCl (tm_ws g L M) H → va_S A s.heap H locs → lv_has ls 3 [(0, .ref (g.2.2 + o0)), (1, .ref (g.2.2 + o1)), (2, .int v2)] → W p l e { frames := 1, cells := 0, slots := 0, locals := 21 } s m args below meth c H locs 0 0 (MQ below (tm_QV g A L M0) args s 0 0 A) (F0 m 13 ls []) := by
  obtain ⟨⟨hx, hb, hml, hown, hts⟩, hr, hlk, hK, hD, hG, hF⟩ := id C0
  intro n
  induction n with
  | zero =>
    intro v2 M h
    simp [f_X8_copy_L13] at h
  | succ n ih =>
    intro v2 M h H locs ls hP hS hl
    rw [f_X8_copy_L13] at h
    refine lv_iload_n hx hb dX8_copy_13 rfl (lv_at hl 2 rfl) ?_
    refine lv_aload_n hx hb dX8_copy_14 rfl (lv_at hl 1 rfl) ?_
    refine tm_get (C := RX8) (T := TX8) (N := 4) (v := .int (M o1 2)) hx hb hts nX8_copy_X8 hown hK hP (hF _ (tm_lt hg_o1)) (tm_mkX8 hg_o1 _) rfl 2 (by decide) (hts _ kX8_copy_1) rfl dX8_copy_15 ?_
    refine lv_icmp_ge (tgt := 48) hx hb dX8_copy_18 (by decide) (fun c7 => ?_) (fun c7 => ?_)
    · rw [if_pos c7] at h
      exact hk v2 M h _ _ _ hP hS (lv_sub hl [0, 1, 2] rfl)
    · rw [if_neg c7] at h
      refine lv_iload_n hx hb dX8_copy_21 rfl (lv_at hl 2 rfl) ?_
      refine lv_bipush (v := 6) hx hb dX8_copy_22 (by decide) ?_
      refine lv_icmp_ge (tgt := 48) hx hb dX8_copy_24 (by decide) (fun c8 => ?_) (fun c8 => ?_)
      · rw [if_pos c8] at h
        exact hk v2 M h _ _ _ hP hS (lv_sub hl [0, 1, 2] rfl)
      · rw [if_neg c8] at h
        refine lv_aload_n hx hb dX8_copy_27 rfl (lv_at hl 0 rfl) ?_
        refine tm_get (C := RX8) (T := TX8) (N := 4) (v := .ref (g.2.2 + (o0 + 2))) hx hb hts nX8_copy_X8 hown hK hP (hF _ (tm_lt hg_o0)) (tm_mkX8 hg_o0 _) rfl 1 (by decide) (hts _ kX8_copy_2) rfl dX8_copy_28 ?_
        refine lv_iload_n hx hb dX8_copy_31 rfl (lv_at hl 2 rfl) ?_
        obtain ⟨g11, h⟩ := tm_gd_some h
        obtain ⟨x9, e10, h⟩ := tm_bd_some h
        refine tm_aald hx hb hK hP 3 (hF _ (tm_lt g11)) (tm_mkL g11) rfl e10 dX8_copy_32 ?_
        refine lv_aload_n hx hb dX8_copy_33 rfl (lv_at hl 1 rfl) ?_
        refine tm_get (C := RX8) (T := TX8) (N := 4) (v := .ref (g.2.2 + (o1 + 2))) hx hb hts nX8_copy_X8 hown hK hP (hF _ (tm_lt hg_o1)) (tm_mkX8 hg_o1 _) rfl 1 (by decide) (hts _ kX8_copy_2) rfl dX8_copy_34 ?_
        refine lv_iload_n hx hb dX8_copy_37 rfl (lv_at hl 2 rfl) ?_
        obtain ⟨g14, h⟩ := tm_gd_some h
        obtain ⟨x12, e13, h⟩ := tm_bd_some h
        refine tm_aald hx hb hK hP 3 (hF _ (tm_lt g14)) (tm_mkL g14) rfl e13 dX8_copy_38 ?_
        obtain ⟨g18, h⟩ := tm_gd_some h
        obtain ⟨M17, e16, h⟩ := tm_bd_some h
        refine tm_backV (M0 := M17) (fun _ q => q) (tm_callV (As := [.ref (g.2.2 + x12)]) (rest := []) ⟨hx, hb, hml, hown, hts⟩ hK hG hP hS (c_X1_copy l g A L hD hF M x9 x12 M17 e16) (cwV 1 hts gX8_copy_X1_copy rfl rfl rfl (by decide +kernel) ⟨Nat.le_of_ble_eq_true rfl, Nat.le_of_ble_eq_true rfl⟩) (tm_recv hK hP (hF _ (tm_lt g18)) (ci := 0) rfl (tm_mkX1 g18 _)) rfl hl.1 (lv_room (Nat.le_of_ble_eq_true rfl)) dX8_copy_39 ⟨Nat.zero_le _, Nat.zero_le _⟩) hS (fun H locs hP hS => ?_)
        refine lv_iinc (v := v2 + 1) (lv' := [(2, .int (v2 + 1)), (0, .ref (g.2.2 + o0)), (1, .ref (g.2.2 + o1))]) hx hb dX8_copy_42 hl (k := 2) rfl rfl (by decide) rfl (fun ls hl => ?_)
        refine lv_goto (tgt := 13) hx hb dX8_copy_45 (by decide) ?_
        exact ih (v2 + 1) M17 h _ _ _ hP hS (lv_sub hl [1, 2, 0] rfl)
set_option maxHeartbeats 4000000 in
set_option maxRecDepth 100000 in
theorem c_X8_copy (l : Launch) (g : tm_G) (A : Nat → Prop) (L : List Nat) (hD : ∀ M, va_D A (tm_ws g L M)) (hF : ∀ o, tm_all o → o ∈ L) (M : tm_M) (o0 : Nat) (o1 : Nat) (M0 : tm_M) (h : f_X8_copy M o0 o1 = some M0) : Met l yX8_copy wsX8_copy { frames := 1, cells := 0, slots := 0, locals := 21 } (tm_PC g A L M [.ref (g.2.2 + o0), .ref (g.2.2 + o1)]) (tm_QV g A L M0) 0 0 A := by
  refine tm_start (cc := cX8_copy) (nL := 3) (ret := none) (F := tm_all) (plainFor_of_name (by decide)) rfl (Nat.le_of_ble_eq_true rfl) hD hF (fun p e s m args below meth c ls C0 hP hS hl => ?_)
  have hl : lv_has ls 3 [(0, .ref (g.2.2 + o0)), (1, .ref (g.2.2 + o1))] := hl
  have C0 : tm_C p m c cX8_copy 3 s args wsX8_copy RX8 meth none g A L tm_all := C0
  obtain ⟨⟨hx, hb, hml, hown, hts⟩, hr, hlk, hK, hD, hG, hF⟩ := id C0
  unfold f_X8_copy at h
  obtain ⟨g1, h⟩ := tm_gd_some h
  obtain ⟨g2, h⟩ := tm_gd_some h
  refine lv_aload_n hx hb dX8_copy_0 rfl (lv_at hl 0 rfl) ?_
  refine tm_get (C := RX8) (T := TX8) (N := 4) (v := .ref (g.2.2 + (o0 + 1))) hx hb hts nX8_copy_X8 hown hK hP (hF _ (tm_lt g1)) (tm_mkX8 g1 _) rfl 0 (by decide) (hts _ kX8_copy_0) rfl dX8_copy_1 ?_
  refine lv_aload_n hx hb dX8_copy_4 rfl (lv_at hl 1 rfl) ?_
  refine tm_get (C := RX8) (T := TX8) (N := 4) (v := .ref (g.2.2 + (o1 + 1))) hx hb hts nX8_copy_X8 hown hK hP (hF _ (tm_lt g2)) (tm_mkX8 g2 _) rfl 0 (by decide) (hts _ kX8_copy_0) rfl dX8_copy_5 ?_
  obtain ⟨g6, h⟩ := tm_gd_some h
  obtain ⟨M5, e4, h⟩ := tm_bd_some h
  refine tm_backV (M0 := M5) (fun _ q => q) (tm_callV (As := [.ref (g.2.2 + (o1 + 1))]) (rest := []) ⟨hx, hb, hml, hown, hts⟩ hK hG hP hS (c_X6_copy l g A L hD hF M (o0 + 1) (o1 + 1) M5 e4) (cwV 1 hts gX8_copy_X6_copy rfl rfl rfl (by decide +kernel) ⟨Nat.le_of_ble_eq_true rfl, Nat.le_of_ble_eq_true rfl⟩) (tm_recv hK hP (hF _ (tm_lt g6)) (ci := 5) rfl (tm_mkX6 g6 _)) rfl hl.1 (lv_room (Nat.le_of_ble_eq_true rfl)) dX8_copy_8 ⟨Nat.zero_le _, Nat.zero_le _⟩) hS (fun H locs hP hS => ?_)
  refine lv_iconst (v := 0) hx hb dX8_copy_11 (by decide) ?_
  refine lv_istore_n (lv' := [(2, .int 0), (0, .ref (g.2.2 + o0)), (1, .ref (g.2.2 + o1))]) hx hb dX8_copy_12 rfl hl (by decide) rfl (fun ls hl => ?_)
  refine w_X8_copy_L13 C0 o0 o1 g1 g2 _ M0 (fun v19 M20 h H locs ls hP hS hl => ?_) 1000 0 M5 h _ _ _ hP hS (lv_sub hl [1, 2, 0] rfl)
  refine lv_aload_n hx hb dX8_copy_48 rfl (lv_at hl 0 rfl) ?_
  refine lv_aload_n hx hb dX8_copy_49 rfl (lv_at hl 1 rfl) ?_
  refine tm_get (C := RX8) (T := TX8) (N := 4) (v := .int (M20 o1 2)) hx hb hts nX8_copy_X8 hown hK hP (hF _ (tm_lt g2)) (tm_mkX8 g2 _) rfl 2 (by decide) (hts _ kX8_copy_1) rfl dX8_copy_50 ?_
  obtain ⟨M21, e22, h⟩ := tm_bd_some h
  refine tm_put (C := RX8) (T := TX8) (N := 4) (ty := .int) (x := M20 o1 2) hx hb hts nX8_copy_X8 tyX8 tyX8_ok nmX8 hown hK hP hD hS (hF _ (tm_lt g1)) (tm_mkX8 g1) rfl 2 (by decide) (hts _ kX8_copy_1) rfl (by decide +kernel) rfl rfl (Nat.le_of_ble_eq_true rfl) rfl (Option.some.inj e22) dX8_copy_53 (fun H locs hP hS => ?_)
  refine lv_aload_n hx hb dX8_copy_56 rfl (lv_at hl 0 rfl) ?_
  refine lv_aload_n hx hb dX8_copy_57 rfl (lv_at hl 1 rfl) ?_
  refine tm_get (C := RX8) (T := TX8) (N := 4) (v := .int (M21 o1 3)) hx hb hts nX8_copy_X8 hown hK hP (hF _ (tm_lt g2)) (tm_mkX8 g2 _) rfl 3 (by decide) (hts _ kX8_copy_3) rfl dX8_copy_58 ?_
  obtain ⟨M23, e24, h⟩ := tm_bd_some h
  refine tm_put (C := RX8) (T := TX8) (N := 4) (ty := .int) (x := M21 o1 3) hx hb hts nX8_copy_X8 tyX8 tyX8_ok nmX8 hown hK hP hD hS (hF _ (tm_lt g1)) (tm_mkX8 g1) rfl 3 (by decide) (hts _ kX8_copy_3) rfl (by decide +kernel) rfl rfl (Nat.le_of_ble_eq_true rfl) rfl (Option.some.inj e24) dX8_copy_61 (fun H locs hP hS => ?_)
  exact tm_vret C0 (Option.some.inj h) hP hS dX8_copy_64
/-! X8_join -/
theorem nX8_join_X8 : ∀ w ∈ wsX80, w ∈ wsX8_join := by decide +kernel
theorem kX8_join_0 : Cond.fieldLink RX8 30 "QuarrelDesk$Year" "couples" "I" ∈ wsX8_join := by decide +kernel
theorem kX8_join_1 : Cond.fieldLink RX8 20 "QuarrelDesk$Year" "lives" "[LQuarrelDesk$Life;" ∈ wsX8_join := by decide +kernel
def f_X8_join (M : tm_M) (o0 : Nat) (o1 : Nat) (p2 : Int32) (p3 : Int32) : Option tm_M :=
  tm_gd (tm_shp o0 = 7) <|
  if (M o0 2) < 0 then
    some M
  else
    if 6 ≤ (M o0 2) then
      some M
    else
      tm_gd (tm_shp (o0 + 2) = 13) <|
      (tm_rdr (o0 + 2) 6 (M o0 2)).bind fun x4 =>
      tm_gd (tm_shp x4 = 0) <|
      (f_X1_begin M x4 o1 p2 p3).bind fun M9 =>
      (some (tm_st M9 o0 2 ((M9 o0 2) + 1))).bind fun M11 =>
      some M11
set_option maxHeartbeats 4000000 in
set_option maxRecDepth 100000 in
theorem c_X8_join (l : Launch) (g : tm_G) (A : Nat → Prop) (L : List Nat) (hD : ∀ M, va_D A (tm_ws g L M)) (hF : ∀ o, tm_all o → o ∈ L) (M : tm_M) (o0 : Nat) (o1 : Nat) (p2 : Int32) (p3 : Int32) (M0 : tm_M) (h : f_X8_join M o0 o1 p2 p3 = some M0) : Met l yX8_join wsX8_join { frames := 1, cells := 0, slots := 0, locals := 23 } (tm_PC g A L M [.ref (g.2.2 + o0), .ref (g.2.2 + o1), .int p2, .int p3]) (tm_QV g A L M0) 0 0 A := by
  refine tm_start (cc := cX8_join) (nL := 4) (ret := none) (F := tm_all) (plainFor_of_name (by decide)) rfl (Nat.le_of_ble_eq_true rfl) hD hF (fun p e s m args below meth c ls C0 hP hS hl => ?_)
  have hl : lv_has ls 4 [(0, .ref (g.2.2 + o0)), (1, .ref (g.2.2 + o1)), (2, .int p2), (3, .int p3)] := hl
  have C0 : tm_C p m c cX8_join 4 s args wsX8_join RX8 meth none g A L tm_all := C0
  obtain ⟨⟨hx, hb, hml, hown, hts⟩, hr, hlk, hK, hD, hG, hF⟩ := id C0
  unfold f_X8_join at h
  obtain ⟨g1, h⟩ := tm_gd_some h
  refine lv_aload_n hx hb dX8_join_0 rfl (lv_at hl 0 rfl) ?_
  refine tm_get (C := RX8) (T := TX8) (N := 4) (v := .int (M o0 2)) hx hb hts nX8_join_X8 hown hK hP (hF _ (tm_lt g1)) (tm_mkX8 g1 _) rfl 2 (by decide) (hts _ kX8_join_0) rfl dX8_join_1 ?_
  refine lv_if_lt (tgt := 41) hx hb dX8_join_4 (by decide) (fun c2 => ?_) (fun c2 => ?_)
  · rw [if_pos c2] at h
    exact tm_vret C0 (Option.some.inj h) hP hS dX8_join_41
  · rw [if_neg c2] at h
    refine lv_aload_n hx hb dX8_join_7 rfl (lv_at hl 0 rfl) ?_
    refine tm_get (C := RX8) (T := TX8) (N := 4) (v := .int (M o0 2)) hx hb hts nX8_join_X8 hown hK hP (hF _ (tm_lt g1)) (tm_mkX8 g1 _) rfl 2 (by decide) (hts _ kX8_join_0) rfl dX8_join_8 ?_
    refine lv_bipush (v := 6) hx hb dX8_join_11 (by decide) ?_
    refine lv_icmp_ge (tgt := 41) hx hb dX8_join_13 (by decide) (fun c3 => ?_) (fun c3 => ?_)
    · rw [if_pos c3] at h
      exact tm_vret C0 (Option.some.inj h) hP hS dX8_join_41
    · rw [if_neg c3] at h
      refine lv_aload_n hx hb dX8_join_16 rfl (lv_at hl 0 rfl) ?_
      refine tm_get (C := RX8) (T := TX8) (N := 4) (v := .ref (g.2.2 + (o0 + 2))) hx hb hts nX8_join_X8 hown hK hP (hF _ (tm_lt g1)) (tm_mkX8 g1 _) rfl 1 (by decide) (hts _ kX8_join_1) rfl dX8_join_17 ?_
      refine lv_aload_n hx hb dX8_join_20 rfl (lv_at hl 0 rfl) ?_
      refine tm_get (C := RX8) (T := TX8) (N := 4) (v := .int (M o0 2)) hx hb hts nX8_join_X8 hown hK hP (hF _ (tm_lt g1)) (tm_mkX8 g1 _) rfl 2 (by decide) (hts _ kX8_join_0) rfl dX8_join_21 ?_
      obtain ⟨g6, h⟩ := tm_gd_some h
      obtain ⟨x4, e5, h⟩ := tm_bd_some h
      refine tm_aald hx hb hK hP 3 (hF _ (tm_lt g6)) (tm_mkL g6) rfl e5 dX8_join_24 ?_
      refine lv_aload_n hx hb dX8_join_25 rfl (lv_at hl 1 rfl) ?_
      refine lv_iload_n hx hb dX8_join_26 rfl (lv_at hl 2 rfl) ?_
      refine lv_iload_n hx hb dX8_join_27 rfl (lv_at hl 3 rfl) ?_
      obtain ⟨g10, h⟩ := tm_gd_some h
      obtain ⟨M9, e8, h⟩ := tm_bd_some h
      refine tm_backV (M0 := M9) (fun _ q => q) (tm_callV (As := [.ref (g.2.2 + o1), .int p2, .int p3]) (rest := []) ⟨hx, hb, hml, hown, hts⟩ hK hG hP hS (c_X1_begin l g A L hD hF M x4 o1 p2 p3 M9 e8) (cwV 3 hts gX8_join_X1_begin rfl rfl rfl (by decide +kernel) ⟨Nat.le_of_ble_eq_true rfl, Nat.le_of_ble_eq_true rfl⟩) (tm_recv hK hP (hF _ (tm_lt g10)) (ci := 0) rfl (tm_mkX1 g10 _)) rfl hl.1 (lv_room (Nat.le_of_ble_eq_true rfl)) dX8_join_28 ⟨Nat.zero_le _, Nat.zero_le _⟩) hS (fun H locs hP hS => ?_)
      refine lv_aload_n hx hb dX8_join_31 rfl (lv_at hl 0 rfl) ?_
      refine lv_dup hx hb dX8_join_32 rfl ?_
      refine tm_get (C := RX8) (T := TX8) (N := 4) (v := .int (M9 o0 2)) hx hb hts nX8_join_X8 hown hK hP (hF _ (tm_lt g1)) (tm_mkX8 g1 _) rfl 2 (by decide) (hts _ kX8_join_0) rfl dX8_join_33 ?_
      refine lv_iconst (v := 1) hx hb dX8_join_36 (by decide) ?_
      refine lv_iadd hx hb dX8_join_37 ?_
      obtain ⟨M11, e12, h⟩ := tm_bd_some h
      refine tm_put (C := RX8) (T := TX8) (N := 4) (ty := .int) (x := (M9 o0 2) + 1) hx hb hts nX8_join_X8 tyX8 tyX8_ok nmX8 hown hK hP hD hS (hF _ (tm_lt g1)) (tm_mkX8 g1) rfl 2 (by decide) (hts _ kX8_join_0) rfl (by decide +kernel) rfl rfl (Nat.le_of_ble_eq_true rfl) rfl (Option.some.inj e12) dX8_join_38 (fun H locs hP hS => ?_)
      exact tm_vret C0 (Option.some.inj h) hP hS dX8_join_41
/-! X8_pass -/
theorem nX8_pass_X8 : ∀ w ∈ wsX80, w ∈ wsX8_pass := by decide +kernel
theorem kX8_pass_0 : Cond.fieldLink RX8 30 "QuarrelDesk$Year" "couples" "I" ∈ wsX8_pass := by decide +kernel
theorem kX8_pass_1 : Cond.fieldLink RX8 20 "QuarrelDesk$Year" "lives" "[LQuarrelDesk$Life;" ∈ wsX8_pass := by decide +kernel
theorem kX8_pass_2 : Cond.fieldLink RX8 34 "QuarrelDesk$Year" "day" "I" ∈ wsX8_pass := by decide +kernel
theorem kX8_pass_3 : Cond.fieldLink RX8 12 "QuarrelDesk$Year" "terms" "LQuarrelDesk$Terms;" ∈ wsX8_pass := by decide +kernel
def f_X8_pass_L4 (k : Int32 → Int32 → tm_M → Option (Int32 × tm_M)) (o0 : Nat) : Nat → Int32 → Int32 → tm_M → Option (Int32 × tm_M)
  | 0, _, _, _ => none
  | n + 1, v1, v2, M =>
    if (M o0 2) ≤ v2 then
      k v1 v2 M
    else
      if 6 ≤ v2 then
        k v1 v2 M
      else
        tm_gd (tm_shp (o0 + 2) = 13) <|
        (tm_rdr (o0 + 2) 6 v2).bind fun x4 =>
        tm_gd (tm_shp x4 = 0) <|
        (f_X1_pass M x4 (M o0 3) (o0 + 1)).bind fun r7 =>
        if r7.1 = 0 then
          f_X8_pass_L4 k o0 n v1 (v2 + 1) r7.2
        else
          (some (v1 ||| (1 <<< (v2 &&& 31)))).bind fun x11 =>
          f_X8_pass_L4 k o0 n x11 (v2 + 1) r7.2
def f_X8_pass (M : tm_M) (o0 : Nat) : Option (Int32 × tm_M) :=
  tm_gd (tm_shp o0 = 7) <|
  f_X8_pass_L4 (fun v12 v13 M14 =>
    (some (tm_st M14 o0 3 ((M14 o0 3) + 1))).bind fun M15 =>
    some (v12, M15)) o0 1000 0 0 M
set_option maxHeartbeats 4000000 in
set_option maxRecDepth 100000 in
theorem w_X8_pass_L4 {p : Program} {l : Launch} {e : Env} {s : State} {m : MethodId} {args : Array Value} {below : List Frame} {meth : Method} {c : Code} {g : tm_G} {A : Nat → Prop} {L : List Nat} (C0 : tm_C p m c cX8_pass 3 s args wsX8_pass RX8 meth (some .int) g A L tm_all) (o0 : Nat) (hg_o0 : tm_shp o0 = 7) (k : Int32 → Int32 → tm_M → Option (Int32 × tm_M)) (R0 : Int32 × tm_M) (hk : ∀ (v1 : Int32) (v2 : Int32) (M : tm_M), k v1 v2 M = some R0 → ∀ (H : Heap) (locs : List Loc) (ls : Array Slot), va_P g.1 vwCl (tm_ws g L M) H → va_S A s.heap H locs → lv_has ls 3 [(0, .ref (g.2.2 + o0)), (1, .int v1), (2, .int v2)] → W p l e { frames := 4, cells := 0, slots := 0, locals := 88 } s m args below meth c H locs 0 0 (MQ below (tm_QI g A L R0) args s 0 0 A) (F0 m 50 ls [])) : ∀ (n : Nat) (v1 : Int32) (v2 : Int32) (M : tm_M), f_X8_pass_L4 k o0 n v1 v2 M = some R0 → ∀ (H : Heap) (locs : List Loc) (ls : Array Slot), va_P g.1 vwCl (tm_ws g L M) H → va_S A s.heap H locs → lv_has ls 3 [(0, .ref (g.2.2 + o0)), (1, .int v1), (2, .int v2)] → W p l e { frames := 4, cells := 0, slots := 0, locals := 88 } s m args below meth c H locs 0 0 (MQ below (tm_QI g A L R0) args s 0 0 A) (F0 m 4 ls []) := by
  obtain ⟨⟨hx, hb, hml, hown, hts⟩, hr, hlk, hK, hD, hG, hF⟩ := id C0
  intro n
  induction n with
  | zero =>
    intro v1 v2 M h
    simp [f_X8_pass_L4] at h
  | succ n ih =>
    intro v1 v2 M h H locs ls hP hS hl
    rw [f_X8_pass_L4] at h
    refine lv_iload_n hx hb dX8_pass_4 rfl (lv_at hl 2 rfl) ?_
    refine lv_aload_n hx hb dX8_pass_5 rfl (lv_at hl 0 rfl) ?_
    refine tm_get (C := RX8) (T := TX8) (N := 4) (v := .int (M o0 2)) hx hb hts nX8_pass_X8 hown hK hP (hF _ (tm_lt hg_o0)) (tm_mkX8 hg_o0 _) rfl 2 (by decide) (hts _ kX8_pass_0) rfl dX8_pass_6 ?_
    refine lv_icmp_ge (tgt := 50) hx hb dX8_pass_9 (by decide) (fun c2 => ?_) (fun c2 => ?_)
    · rw [if_pos c2] at h
      exact hk v1 v2 M h _ _ _ hP hS (lv_sub hl [0, 1, 2] rfl)
    · rw [if_neg c2] at h
      refine lv_iload_n hx hb dX8_pass_12 rfl (lv_at hl 2 rfl) ?_
      refine lv_bipush (v := 6) hx hb dX8_pass_13 (by decide) ?_
      refine lv_icmp_ge (tgt := 50) hx hb dX8_pass_15 (by decide) (fun c3 => ?_) (fun c3 => ?_)
      · rw [if_pos c3] at h
        exact hk v1 v2 M h _ _ _ hP hS (lv_sub hl [0, 1, 2] rfl)
      · rw [if_neg c3] at h
        refine lv_aload_n hx hb dX8_pass_18 rfl (lv_at hl 0 rfl) ?_
        refine tm_get (C := RX8) (T := TX8) (N := 4) (v := .ref (g.2.2 + (o0 + 2))) hx hb hts nX8_pass_X8 hown hK hP (hF _ (tm_lt hg_o0)) (tm_mkX8 hg_o0 _) rfl 1 (by decide) (hts _ kX8_pass_1) rfl dX8_pass_19 ?_
        refine lv_iload_n hx hb dX8_pass_22 rfl (lv_at hl 2 rfl) ?_
        obtain ⟨g6, h⟩ := tm_gd_some h
        obtain ⟨x4, e5, h⟩ := tm_bd_some h
        refine tm_aald hx hb hK hP 3 (hF _ (tm_lt g6)) (tm_mkL g6) rfl e5 dX8_pass_23 ?_
        refine lv_aload_n hx hb dX8_pass_24 rfl (lv_at hl 0 rfl) ?_
        refine tm_get (C := RX8) (T := TX8) (N := 4) (v := .int (M o0 3)) hx hb hts nX8_pass_X8 hown hK hP (hF _ (tm_lt hg_o0)) (tm_mkX8 hg_o0 _) rfl 3 (by decide) (hts _ kX8_pass_2) rfl dX8_pass_25 ?_
        refine lv_aload_n hx hb dX8_pass_28 rfl (lv_at hl 0 rfl) ?_
        refine tm_get (C := RX8) (T := TX8) (N := 4) (v := .ref (g.2.2 + (o0 + 1))) hx hb hts nX8_pass_X8 hown hK hP (hF _ (tm_lt hg_o0)) (tm_mkX8 hg_o0 _) rfl 0 (by decide) (hts _ kX8_pass_3) rfl dX8_pass_29 ?_
        obtain ⟨g9, h⟩ := tm_gd_some h
        obtain ⟨r7, e8, h⟩ := tm_bd_some h
        refine tm_backI (r0 := r7.1) (M0 := r7.2) (fun _ q => q) (tm_callV (As := [.int (M o0 3), .ref (g.2.2 + (o0 + 1))]) (rest := []) ⟨hx, hb, hml, hown, hts⟩ hK hG hP hS (c_X1_pass l g A L hD hF M x4 (M o0 3) (o0 + 1) r7 e8) (cwV 2 hts gX8_pass_X1_pass rfl rfl rfl (by decide +kernel) ⟨Nat.le_of_ble_eq_true rfl, Nat.le_of_ble_eq_true rfl⟩) (tm_recv hK hP (hF _ (tm_lt g9)) (ci := 0) rfl (tm_mkX1 g9 _)) rfl hl.1 (lv_room (Nat.le_of_ble_eq_true rfl)) dX8_pass_32 ⟨Nat.zero_le _, Nat.zero_le _⟩) hS (fun H locs hP hS => ?_)
        refine lv_if_eq (tgt := 44) hx hb dX8_pass_35 (by decide) (fun c10 => ?_) (fun c10 => ?_)
        · rw [if_pos c10] at h
          refine lv_iinc (v := v2 + 1) (lv' := [(2, .int (v2 + 1)), (0, .ref (g.2.2 + o0)), (1, .int v1)]) hx hb dX8_pass_44 hl (k := 2) rfl rfl (by decide) rfl (fun ls hl => ?_)
          refine lv_goto (tgt := 4) hx hb dX8_pass_47 (by decide) ?_
          exact ih v1 (v2 + 1) r7.2 h _ _ _ hP hS (lv_sub hl [1, 2, 0] rfl)
        · rw [if_neg c10] at h
          refine lv_iload_n hx hb dX8_pass_38 rfl (lv_at hl 1 rfl) ?_
          refine lv_iconst (v := 1) hx hb dX8_pass_39 (by decide) ?_
          refine lv_iload_n hx hb dX8_pass_40 rfl (lv_at hl 2 rfl) ?_
          refine lv_ishl hx hb dX8_pass_41 ?_
          refine lv_ior hx hb dX8_pass_42 ?_
          refine tm_nam h (fun x11 h => ?_)
          refine lv_istore_n (lv' := [(1, .int x11), (0, .ref (g.2.2 + o0)), (2, .int v2)]) hx hb dX8_pass_43 rfl hl (by decide) rfl (fun ls hl => ?_)
          refine lv_iinc (v := v2 + 1) (lv' := [(2, .int (v2 + 1)), (1, .int x11), (0, .ref (g.2.2 + o0))]) hx hb dX8_pass_44 hl (k := 2) rfl rfl (by decide) rfl (fun ls hl => ?_)
          refine lv_goto (tgt := 4) hx hb dX8_pass_47 (by decide) ?_
          exact ih x11 (v2 + 1) r7.2 h _ _ _ hP hS (lv_sub hl [2, 1, 0] rfl)
set_option maxHeartbeats 4000000 in
set_option maxRecDepth 100000 in
theorem c_X8_pass (l : Launch) (g : tm_G) (A : Nat → Prop) (L : List Nat) (hD : ∀ M, va_D A (tm_ws g L M)) (hF : ∀ o, tm_all o → o ∈ L) (M : tm_M) (o0 : Nat) (R0 : Int32 × tm_M) (h : f_X8_pass M o0 = some R0) : Met l yX8_pass wsX8_pass { frames := 4, cells := 0, slots := 0, locals := 88 } (tm_PC g A L M [.ref (g.2.2 + o0)]) (tm_QI g A L R0) 0 0 A := by
  refine tm_start (cc := cX8_pass) (nL := 3) (ret := (some .int)) (F := tm_all) (plainFor_of_name (by decide)) rfl (Nat.le_of_ble_eq_true rfl) hD hF (fun p e s m args below meth c ls C0 hP hS hl => ?_)
  have hl : lv_has ls 3 [(0, .ref (g.2.2 + o0))] := hl
  have C0 : tm_C p m c cX8_pass 3 s args wsX8_pass RX8 meth (some .int) g A L tm_all := C0
  obtain ⟨⟨hx, hb, hml, hown, hts⟩, hr, hlk, hK, hD, hG, hF⟩ := id C0
  unfold f_X8_pass at h
  obtain ⟨g1, h⟩ := tm_gd_some h
  refine lv_iconst (v := 0) hx hb dX8_pass_0 (by decide) ?_
  refine lv_istore_n (lv' := [(1, .int 0), (0, .ref (g.2.2 + o0))]) hx hb dX8_pass_1 rfl hl (by decide) rfl (fun ls hl => ?_)
  refine lv_iconst (v := 0) hx hb dX8_pass_2 (by decide) ?_
  refine lv_istore_n (lv' := [(2, .int 0), (1, .int 0), (0, .ref (g.2.2 + o0))]) hx hb dX8_pass_3 rfl hl (by decide) rfl (fun ls hl => ?_)
  refine w_X8_pass_L4 C0 o0 g1 _ R0 (fun v12 v13 M14 h H locs ls hP hS hl => ?_) 1000 0 0 M h _ _ _ hP hS (lv_sub hl [2, 1, 0] rfl)
  refine lv_aload_n hx hb dX8_pass_50 rfl (lv_at hl 0 rfl) ?_
  refine lv_dup hx hb dX8_pass_51 rfl ?_
  refine tm_get (C := RX8) (T := TX8) (N := 4) (v := .int (M14 o0 3)) hx hb hts nX8_pass_X8 hown hK hP (hF _ (tm_lt g1)) (tm_mkX8 g1 _) rfl 3 (by decide) (hts _ kX8_pass_2) rfl dX8_pass_52 ?_
  refine lv_iconst (v := 1) hx hb dX8_pass_55 (by decide) ?_
  refine lv_iadd hx hb dX8_pass_56 ?_
  obtain ⟨M15, e16, h⟩ := tm_bd_some h
  refine tm_put (C := RX8) (T := TX8) (N := 4) (ty := .int) (x := (M14 o0 3) + 1) hx hb hts nX8_pass_X8 tyX8 tyX8_ok nmX8 hown hK hP hD hS (hF _ (tm_lt g1)) (tm_mkX8 g1) rfl 3 (by decide) (hts _ kX8_pass_2) rfl (by decide +kernel) rfl rfl (Nat.le_of_ble_eq_true rfl) rfl (Option.some.inj e16) dX8_pass_57 (fun H locs hP hS => ?_)
  refine lv_iload_n hx hb dX8_pass_60 rfl (lv_at hl 1 rfl) ?_
  exact tm_iret C0 (Option.some.inj h) hP hS dX8_pass_61
/-! X8_breaks -/
theorem nX8_breaks_X8 : ∀ w ∈ wsX80, w ∈ wsX8_breaks := by decide +kernel
theorem kX8_breaks_0 : Cond.fieldLink RX8 30 "QuarrelDesk$Year" "couples" "I" ∈ wsX8_breaks := by decide +kernel
theorem kX8_breaks_1 : Cond.fieldLink RX8 20 "QuarrelDesk$Year" "lives" "[LQuarrelDesk$Life;" ∈ wsX8_breaks := by decide +kernel
theorem nX8_breaks_X1 : ∀ w ∈ wsX10, w ∈ wsX8_breaks := by decide +kernel
theorem kX8_breaks_2 : Cond.fieldLink RX8 52 "QuarrelDesk$Life" "breaks" "I" ∈ wsX8_breaks := by decide +kernel
def f_X8_breaks_L4 (k : Int32 → Int32 → Option Int32) (M : tm_M) (o0 : Nat) : Nat → Int32 → Int32 → Option Int32
  | 0, _, _ => none
  | n + 1, v1, v2 =>
    if (M o0 2) ≤ v2 then
      k v1 v2
    else
      if 6 ≤ v2 then
        k v1 v2
      else
        tm_gd (tm_shp (o0 + 2) = 13) <|
        (tm_rdr (o0 + 2) 6 v2).bind fun x4 =>
        tm_gd (tm_shp x4 = 0) <|
        (some (v1 + (M x4 5))).bind fun x8 =>
        f_X8_breaks_L4 k M o0 n x8 (v2 + 1)
def f_X8_breaks (M : tm_M) (o0 : Nat) : Option Int32 :=
  tm_gd (tm_shp o0 = 7) <|
  f_X8_breaks_L4 (fun v9 v10 =>
    some v9) M o0 1000 0 0
set_option maxHeartbeats 4000000 in
set_option maxRecDepth 100000 in
theorem w_X8_breaks_L4 {p : Program} {l : Launch} {e : Env} {s : State} {m : MethodId} {args : Array Value} {below : List Frame} {meth : Method} {c : Code} {g : tm_G} {A : Nat → Prop} {L : List Nat} (C0 : tm_C p m c cX8_breaks 3 s args wsX8_breaks RX8 meth (some .int) g A L tm_all) (M : tm_M) (o0 : Nat) (hg_o0 : tm_shp o0 = 7) (k : Int32 → Int32 → Option Int32) (r0 : Int32) (hk : ∀ (v1 : Int32) (v2 : Int32), k v1 v2 = some r0 → ∀ (H : Heap) (locs : List Loc) (ls : Array Slot), va_P g.1 vwCl (tm_ws g L M) H → va_S A s.heap H locs → lv_has ls 3 [(0, .ref (g.2.2 + o0)), (1, .int v1), (2, .int v2)] → W p l e { frames := 0, cells := 0, slots := 0, locals := 0 } s m args below meth c H locs 0 0 (MQ below (tm_QI g A L (r0, M)) args s 0 0 A) (F0 m 36 ls [])) : ∀ (n : Nat) (v1 : Int32) (v2 : Int32), f_X8_breaks_L4 k M o0 n v1 v2 = some r0 → ∀ (H : Heap) (locs : List Loc) (ls : Array Slot), va_P g.1 vwCl (tm_ws g L M) H → va_S A s.heap H locs → lv_has ls 3 [(0, .ref (g.2.2 + o0)), (1, .int v1), (2, .int v2)] → W p l e { frames := 0, cells := 0, slots := 0, locals := 0 } s m args below meth c H locs 0 0 (MQ below (tm_QI g A L (r0, M)) args s 0 0 A) (F0 m 4 ls []) := by
  obtain ⟨⟨hx, hb, hml, hown, hts⟩, hr, hlk, hK, hD, hG, hF⟩ := id C0
  intro n
  induction n with
  | zero =>
    intro v1 v2 h
    simp [f_X8_breaks_L4] at h
  | succ n ih =>
    intro v1 v2 h H locs ls hP hS hl
    rw [f_X8_breaks_L4] at h
    refine lv_iload_n hx hb dX8_breaks_4 rfl (lv_at hl 2 rfl) ?_
    refine lv_aload_n hx hb dX8_breaks_5 rfl (lv_at hl 0 rfl) ?_
    refine tm_get (C := RX8) (T := TX8) (N := 4) (v := .int (M o0 2)) hx hb hts nX8_breaks_X8 hown hK hP (hF _ (tm_lt hg_o0)) (tm_mkX8 hg_o0 _) rfl 2 (by decide) (hts _ kX8_breaks_0) rfl dX8_breaks_6 ?_
    refine lv_icmp_ge (tgt := 36) hx hb dX8_breaks_9 (by decide) (fun c2 => ?_) (fun c2 => ?_)
    · rw [if_pos c2] at h
      exact hk v1 v2 h _ _ _ hP hS (lv_sub hl [0, 1, 2] rfl)
    · rw [if_neg c2] at h
      refine lv_iload_n hx hb dX8_breaks_12 rfl (lv_at hl 2 rfl) ?_
      refine lv_bipush (v := 6) hx hb dX8_breaks_13 (by decide) ?_
      refine lv_icmp_ge (tgt := 36) hx hb dX8_breaks_15 (by decide) (fun c3 => ?_) (fun c3 => ?_)
      · rw [if_pos c3] at h
        exact hk v1 v2 h _ _ _ hP hS (lv_sub hl [0, 1, 2] rfl)
      · rw [if_neg c3] at h
        refine lv_iload_n hx hb dX8_breaks_18 rfl (lv_at hl 1 rfl) ?_
        refine lv_aload_n hx hb dX8_breaks_19 rfl (lv_at hl 0 rfl) ?_
        refine tm_get (C := RX8) (T := TX8) (N := 4) (v := .ref (g.2.2 + (o0 + 2))) hx hb hts nX8_breaks_X8 hown hK hP (hF _ (tm_lt hg_o0)) (tm_mkX8 hg_o0 _) rfl 1 (by decide) (hts _ kX8_breaks_1) rfl dX8_breaks_20 ?_
        refine lv_iload_n hx hb dX8_breaks_23 rfl (lv_at hl 2 rfl) ?_
        obtain ⟨g6, h⟩ := tm_gd_some h
        obtain ⟨x4, e5, h⟩ := tm_bd_some h
        refine tm_aald hx hb hK hP 3 (hF _ (tm_lt g6)) (tm_mkL g6) rfl e5 dX8_breaks_24 ?_
        obtain ⟨g7, h⟩ := tm_gd_some h
        refine tm_get (C := RX1) (T := TX1) (N := 12) (v := .int (M x4 5)) hx hb hts nX8_breaks_X1 hown hK hP (hF _ (tm_lt g7)) (tm_mkX1 g7 _) rfl 5 (by decide) (hts _ kX8_breaks_2) rfl dX8_breaks_25 ?_
        refine lv_iadd hx hb dX8_breaks_28 ?_
        refine tm_nam h (fun x8 h => ?_)
        refine lv_istore_n (lv' := [(1, .int x8), (0, .ref (g.2.2 + o0)), (2, .int v2)]) hx hb dX8_breaks_29 rfl hl (by decide) rfl (fun ls hl => ?_)
        refine lv_iinc (v := v2 + 1) (lv' := [(2, .int (v2 + 1)), (1, .int x8), (0, .ref (g.2.2 + o0))]) hx hb dX8_breaks_30 hl (k := 2) rfl rfl (by decide) rfl (fun ls hl => ?_)
        refine lv_goto (tgt := 4) hx hb dX8_breaks_33 (by decide) ?_
        exact ih x8 (v2 + 1) h _ _ _ hP hS (lv_sub hl [2, 1, 0] rfl)
set_option maxHeartbeats 4000000 in
set_option maxRecDepth 100000 in
theorem c_X8_breaks (l : Launch) (g : tm_G) (A : Nat → Prop) (L : List Nat) (hD : ∀ M, va_D A (tm_ws g L M)) (hF : ∀ o, tm_all o → o ∈ L) (M : tm_M) (o0 : Nat) (r0 : Int32) (h : f_X8_breaks M o0 = some r0) : Met l yX8_breaks wsX8_breaks { frames := 0, cells := 0, slots := 0, locals := 0 } (tm_PC g A L M [.ref (g.2.2 + o0)]) (tm_QI g A L (r0, M)) 0 0 A := by
  refine tm_start (cc := cX8_breaks) (nL := 3) (ret := (some .int)) (F := tm_all) (plainFor_of_name (by decide)) rfl (Nat.le_of_ble_eq_true rfl) hD hF (fun p e s m args below meth c ls C0 hP hS hl => ?_)
  have hl : lv_has ls 3 [(0, .ref (g.2.2 + o0))] := hl
  have C0 : tm_C p m c cX8_breaks 3 s args wsX8_breaks RX8 meth (some .int) g A L tm_all := C0
  obtain ⟨⟨hx, hb, hml, hown, hts⟩, hr, hlk, hK, hD, hG, hF⟩ := id C0
  unfold f_X8_breaks at h
  obtain ⟨g1, h⟩ := tm_gd_some h
  refine lv_iconst (v := 0) hx hb dX8_breaks_0 (by decide) ?_
  refine lv_istore_n (lv' := [(1, .int 0), (0, .ref (g.2.2 + o0))]) hx hb dX8_breaks_1 rfl hl (by decide) rfl (fun ls hl => ?_)
  refine lv_iconst (v := 0) hx hb dX8_breaks_2 (by decide) ?_
  refine lv_istore_n (lv' := [(2, .int 0), (1, .int 0), (0, .ref (g.2.2 + o0))]) hx hb dX8_breaks_3 rfl hl (by decide) rfl (fun ls hl => ?_)
  refine w_X8_breaks_L4 C0 M o0 g1 _ r0 (fun v9 v10 h H locs ls hP hS hl => ?_) 1000 0 0 h _ _ _ hP hS (lv_sub hl [2, 1, 0] rfl)
  refine lv_iload_n hx hb dX8_breaks_36 rfl (lv_at hl 1 rfl) ?_
  exact tm_iret C0 (by rw [Option.some.inj h]) hP hS dX8_breaks_37
/-! X8_tiffs -/
theorem nX8_tiffs_X8 : ∀ w ∈ wsX80, w ∈ wsX8_tiffs := by decide +kernel
theorem kX8_tiffs_0 : Cond.fieldLink RX8 30 "QuarrelDesk$Year" "couples" "I" ∈ wsX8_tiffs := by decide +kernel
theorem kX8_tiffs_1 : Cond.fieldLink RX8 20 "QuarrelDesk$Year" "lives" "[LQuarrelDesk$Life;" ∈ wsX8_tiffs := by decide +kernel
theorem nX8_tiffs_X1 : ∀ w ∈ wsX10, w ∈ wsX8_tiffs := by decide +kernel
theorem kX8_tiffs_2 : Cond.fieldLink RX8 55 "QuarrelDesk$Life" "tiffs" "I" ∈ wsX8_tiffs := by decide +kernel
def f_X8_tiffs_L4 (k : Int32 → Int32 → Option Int32) (M : tm_M) (o0 : Nat) : Nat → Int32 → Int32 → Option Int32
  | 0, _, _ => none
  | n + 1, v1, v2 =>
    if (M o0 2) ≤ v2 then
      k v1 v2
    else
      if 6 ≤ v2 then
        k v1 v2
      else
        tm_gd (tm_shp (o0 + 2) = 13) <|
        (tm_rdr (o0 + 2) 6 v2).bind fun x4 =>
        tm_gd (tm_shp x4 = 0) <|
        (some (v1 + (M x4 6))).bind fun x8 =>
        f_X8_tiffs_L4 k M o0 n x8 (v2 + 1)
def f_X8_tiffs (M : tm_M) (o0 : Nat) : Option Int32 :=
  tm_gd (tm_shp o0 = 7) <|
  f_X8_tiffs_L4 (fun v9 v10 =>
    some v9) M o0 1000 0 0
set_option maxHeartbeats 4000000 in
set_option maxRecDepth 100000 in
theorem w_X8_tiffs_L4 {p : Program} {l : Launch} {e : Env} {s : State} {m : MethodId} {args : Array Value} {below : List Frame} {meth : Method} {c : Code} {g : tm_G} {A : Nat → Prop} {L : List Nat} (C0 : tm_C p m c cX8_tiffs 3 s args wsX8_tiffs RX8 meth (some .int) g A L tm_all) (M : tm_M) (o0 : Nat) (hg_o0 : tm_shp o0 = 7) (k : Int32 → Int32 → Option Int32) (r0 : Int32) (hk : ∀ (v1 : Int32) (v2 : Int32), k v1 v2 = some r0 → ∀ (H : Heap) (locs : List Loc) (ls : Array Slot), va_P g.1 vwCl (tm_ws g L M) H → va_S A s.heap H locs → lv_has ls 3 [(0, .ref (g.2.2 + o0)), (1, .int v1), (2, .int v2)] → W p l e { frames := 0, cells := 0, slots := 0, locals := 0 } s m args below meth c H locs 0 0 (MQ below (tm_QI g A L (r0, M)) args s 0 0 A) (F0 m 36 ls [])) : ∀ (n : Nat) (v1 : Int32) (v2 : Int32), f_X8_tiffs_L4 k M o0 n v1 v2 = some r0 → ∀ (H : Heap) (locs : List Loc) (ls : Array Slot), va_P g.1 vwCl (tm_ws g L M) H → va_S A s.heap H locs → lv_has ls 3 [(0, .ref (g.2.2 + o0)), (1, .int v1), (2, .int v2)] → W p l e { frames := 0, cells := 0, slots := 0, locals := 0 } s m args below meth c H locs 0 0 (MQ below (tm_QI g A L (r0, M)) args s 0 0 A) (F0 m 4 ls []) := by
  obtain ⟨⟨hx, hb, hml, hown, hts⟩, hr, hlk, hK, hD, hG, hF⟩ := id C0
  intro n
  induction n with
  | zero =>
    intro v1 v2 h
    simp [f_X8_tiffs_L4] at h
  | succ n ih =>
    intro v1 v2 h H locs ls hP hS hl
    rw [f_X8_tiffs_L4] at h
    refine lv_iload_n hx hb dX8_tiffs_4 rfl (lv_at hl 2 rfl) ?_
    refine lv_aload_n hx hb dX8_tiffs_5 rfl (lv_at hl 0 rfl) ?_
    refine tm_get (C := RX8) (T := TX8) (N := 4) (v := .int (M o0 2)) hx hb hts nX8_tiffs_X8 hown hK hP (hF _ (tm_lt hg_o0)) (tm_mkX8 hg_o0 _) rfl 2 (by decide) (hts _ kX8_tiffs_0) rfl dX8_tiffs_6 ?_
    refine lv_icmp_ge (tgt := 36) hx hb dX8_tiffs_9 (by decide) (fun c2 => ?_) (fun c2 => ?_)
    · rw [if_pos c2] at h
      exact hk v1 v2 h _ _ _ hP hS (lv_sub hl [0, 1, 2] rfl)
    · rw [if_neg c2] at h
      refine lv_iload_n hx hb dX8_tiffs_12 rfl (lv_at hl 2 rfl) ?_
      refine lv_bipush (v := 6) hx hb dX8_tiffs_13 (by decide) ?_
      refine lv_icmp_ge (tgt := 36) hx hb dX8_tiffs_15 (by decide) (fun c3 => ?_) (fun c3 => ?_)
      · rw [if_pos c3] at h
        exact hk v1 v2 h _ _ _ hP hS (lv_sub hl [0, 1, 2] rfl)
      · rw [if_neg c3] at h
        refine lv_iload_n hx hb dX8_tiffs_18 rfl (lv_at hl 1 rfl) ?_
        refine lv_aload_n hx hb dX8_tiffs_19 rfl (lv_at hl 0 rfl) ?_
        refine tm_get (C := RX8) (T := TX8) (N := 4) (v := .ref (g.2.2 + (o0 + 2))) hx hb hts nX8_tiffs_X8 hown hK hP (hF _ (tm_lt hg_o0)) (tm_mkX8 hg_o0 _) rfl 1 (by decide) (hts _ kX8_tiffs_1) rfl dX8_tiffs_20 ?_
        refine lv_iload_n hx hb dX8_tiffs_23 rfl (lv_at hl 2 rfl) ?_
        obtain ⟨g6, h⟩ := tm_gd_some h
        obtain ⟨x4, e5, h⟩ := tm_bd_some h
        refine tm_aald hx hb hK hP 3 (hF _ (tm_lt g6)) (tm_mkL g6) rfl e5 dX8_tiffs_24 ?_
        obtain ⟨g7, h⟩ := tm_gd_some h
        refine tm_get (C := RX1) (T := TX1) (N := 12) (v := .int (M x4 6)) hx hb hts nX8_tiffs_X1 hown hK hP (hF _ (tm_lt g7)) (tm_mkX1 g7 _) rfl 6 (by decide) (hts _ kX8_tiffs_2) rfl dX8_tiffs_25 ?_
        refine lv_iadd hx hb dX8_tiffs_28 ?_
        refine tm_nam h (fun x8 h => ?_)
        refine lv_istore_n (lv' := [(1, .int x8), (0, .ref (g.2.2 + o0)), (2, .int v2)]) hx hb dX8_tiffs_29 rfl hl (by decide) rfl (fun ls hl => ?_)
        refine lv_iinc (v := v2 + 1) (lv' := [(2, .int (v2 + 1)), (1, .int x8), (0, .ref (g.2.2 + o0))]) hx hb dX8_tiffs_30 hl (k := 2) rfl rfl (by decide) rfl (fun ls hl => ?_)
        refine lv_goto (tgt := 4) hx hb dX8_tiffs_33 (by decide) ?_
        exact ih x8 (v2 + 1) h _ _ _ hP hS (lv_sub hl [2, 1, 0] rfl)
set_option maxHeartbeats 4000000 in
set_option maxRecDepth 100000 in
theorem c_X8_tiffs (l : Launch) (g : tm_G) (A : Nat → Prop) (L : List Nat) (hD : ∀ M, va_D A (tm_ws g L M)) (hF : ∀ o, tm_all o → o ∈ L) (M : tm_M) (o0 : Nat) (r0 : Int32) (h : f_X8_tiffs M o0 = some r0) : Met l yX8_tiffs wsX8_tiffs { frames := 0, cells := 0, slots := 0, locals := 0 } (tm_PC g A L M [.ref (g.2.2 + o0)]) (tm_QI g A L (r0, M)) 0 0 A := by
  refine tm_start (cc := cX8_tiffs) (nL := 3) (ret := (some .int)) (F := tm_all) (plainFor_of_name (by decide)) rfl (Nat.le_of_ble_eq_true rfl) hD hF (fun p e s m args below meth c ls C0 hP hS hl => ?_)
  have hl : lv_has ls 3 [(0, .ref (g.2.2 + o0))] := hl
  have C0 : tm_C p m c cX8_tiffs 3 s args wsX8_tiffs RX8 meth (some .int) g A L tm_all := C0
  obtain ⟨⟨hx, hb, hml, hown, hts⟩, hr, hlk, hK, hD, hG, hF⟩ := id C0
  unfold f_X8_tiffs at h
  obtain ⟨g1, h⟩ := tm_gd_some h
  refine lv_iconst (v := 0) hx hb dX8_tiffs_0 (by decide) ?_
  refine lv_istore_n (lv' := [(1, .int 0), (0, .ref (g.2.2 + o0))]) hx hb dX8_tiffs_1 rfl hl (by decide) rfl (fun ls hl => ?_)
  refine lv_iconst (v := 0) hx hb dX8_tiffs_2 (by decide) ?_
  refine lv_istore_n (lv' := [(2, .int 0), (1, .int 0), (0, .ref (g.2.2 + o0))]) hx hb dX8_tiffs_3 rfl hl (by decide) rfl (fun ls hl => ?_)
  refine w_X8_tiffs_L4 C0 M o0 g1 _ r0 (fun v9 v10 h H locs ls hP hS hl => ?_) 1000 0 0 h _ _ _ hP hS (lv_sub hl [2, 1, 0] rfl)
  refine lv_iload_n hx hb dX8_tiffs_36 rfl (lv_at hl 1 rfl) ?_
  exact tm_iret C0 (by rw [Option.some.inj h]) hP hS dX8_tiffs_37
/-! X8_voids -/
theorem nX8_voids_X8 : ∀ w ∈ wsX80, w ∈ wsX8_voids := by decide +kernel
theorem kX8_voids_0 : Cond.fieldLink RX8 30 "QuarrelDesk$Year" "couples" "I" ∈ wsX8_voids := by decide +kernel
theorem kX8_voids_1 : Cond.fieldLink RX8 20 "QuarrelDesk$Year" "lives" "[LQuarrelDesk$Life;" ∈ wsX8_voids := by decide +kernel
theorem nX8_voids_X1 : ∀ w ∈ wsX10, w ∈ wsX8_voids := by decide +kernel
theorem kX8_voids_2 : Cond.fieldLink RX8 58 "QuarrelDesk$Life" "isVoid" "Z" ∈ wsX8_voids := by decide +kernel
def f_X8_voids_L4 (k : Int32 → Int32 → Option Int32) (M : tm_M) (o0 : Nat) : Nat → Int32 → Int32 → Option Int32
  | 0, _, _ => none
  | n + 1, v1, v2 =>
    if (M o0 2) ≤ v2 then
      k v1 v2
    else
      if 6 ≤ v2 then
        k v1 v2
      else
        tm_gd (tm_shp (o0 + 2) = 13) <|
        (tm_rdr (o0 + 2) 6 v2).bind fun x4 =>
        tm_gd (tm_shp x4 = 0) <|
        if (M x4 4) = 0 then
          f_X8_voids_L4 k M o0 n v1 (v2 + 1)
        else
          (some (v1 ||| (1 <<< (v2 &&& 31)))).bind fun x9 =>
          f_X8_voids_L4 k M o0 n x9 (v2 + 1)
def f_X8_voids (M : tm_M) (o0 : Nat) : Option Int32 :=
  tm_gd (tm_shp o0 = 7) <|
  f_X8_voids_L4 (fun v10 v11 =>
    some v10) M o0 1000 0 0
set_option maxHeartbeats 4000000 in
set_option maxRecDepth 100000 in
theorem w_X8_voids_L4 {p : Program} {l : Launch} {e : Env} {s : State} {m : MethodId} {args : Array Value} {below : List Frame} {meth : Method} {c : Code} {g : tm_G} {A : Nat → Prop} {L : List Nat} (C0 : tm_C p m c cX8_voids 3 s args wsX8_voids RX8 meth (some .int) g A L tm_all) (M : tm_M) (o0 : Nat) (hg_o0 : tm_shp o0 = 7) (k : Int32 → Int32 → Option Int32) (r0 : Int32) (hk : ∀ (v1 : Int32) (v2 : Int32), k v1 v2 = some r0 → ∀ (H : Heap) (locs : List Loc) (ls : Array Slot), va_P g.1 vwCl (tm_ws g L M) H → va_S A s.heap H locs → lv_has ls 3 [(0, .ref (g.2.2 + o0)), (1, .int v1), (2, .int v2)] → W p l e { frames := 0, cells := 0, slots := 0, locals := 0 } s m args below meth c H locs 0 0 (MQ below (tm_QI g A L (r0, M)) args s 0 0 A) (F0 m 42 ls [])) : ∀ (n : Nat) (v1 : Int32) (v2 : Int32), f_X8_voids_L4 k M o0 n v1 v2 = some r0 → ∀ (H : Heap) (locs : List Loc) (ls : Array Slot), va_P g.1 vwCl (tm_ws g L M) H → va_S A s.heap H locs → lv_has ls 3 [(0, .ref (g.2.2 + o0)), (1, .int v1), (2, .int v2)] → W p l e { frames := 0, cells := 0, slots := 0, locals := 0 } s m args below meth c H locs 0 0 (MQ below (tm_QI g A L (r0, M)) args s 0 0 A) (F0 m 4 ls []) := by
  obtain ⟨⟨hx, hb, hml, hown, hts⟩, hr, hlk, hK, hD, hG, hF⟩ := id C0
  intro n
  induction n with
  | zero =>
    intro v1 v2 h
    simp [f_X8_voids_L4] at h
  | succ n ih =>
    intro v1 v2 h H locs ls hP hS hl
    rw [f_X8_voids_L4] at h
    refine lv_iload_n hx hb dX8_voids_4 rfl (lv_at hl 2 rfl) ?_
    refine lv_aload_n hx hb dX8_voids_5 rfl (lv_at hl 0 rfl) ?_
    refine tm_get (C := RX8) (T := TX8) (N := 4) (v := .int (M o0 2)) hx hb hts nX8_voids_X8 hown hK hP (hF _ (tm_lt hg_o0)) (tm_mkX8 hg_o0 _) rfl 2 (by decide) (hts _ kX8_voids_0) rfl dX8_voids_6 ?_
    refine lv_icmp_ge (tgt := 42) hx hb dX8_voids_9 (by decide) (fun c2 => ?_) (fun c2 => ?_)
    · rw [if_pos c2] at h
      exact hk v1 v2 h _ _ _ hP hS (lv_sub hl [0, 1, 2] rfl)
    · rw [if_neg c2] at h
      refine lv_iload_n hx hb dX8_voids_12 rfl (lv_at hl 2 rfl) ?_
      refine lv_bipush (v := 6) hx hb dX8_voids_13 (by decide) ?_
      refine lv_icmp_ge (tgt := 42) hx hb dX8_voids_15 (by decide) (fun c3 => ?_) (fun c3 => ?_)
      · rw [if_pos c3] at h
        exact hk v1 v2 h _ _ _ hP hS (lv_sub hl [0, 1, 2] rfl)
      · rw [if_neg c3] at h
        refine lv_aload_n hx hb dX8_voids_18 rfl (lv_at hl 0 rfl) ?_
        refine tm_get (C := RX8) (T := TX8) (N := 4) (v := .ref (g.2.2 + (o0 + 2))) hx hb hts nX8_voids_X8 hown hK hP (hF _ (tm_lt hg_o0)) (tm_mkX8 hg_o0 _) rfl 1 (by decide) (hts _ kX8_voids_1) rfl dX8_voids_19 ?_
        refine lv_iload_n hx hb dX8_voids_22 rfl (lv_at hl 2 rfl) ?_
        obtain ⟨g6, h⟩ := tm_gd_some h
        obtain ⟨x4, e5, h⟩ := tm_bd_some h
        refine tm_aald hx hb hK hP 3 (hF _ (tm_lt g6)) (tm_mkL g6) rfl e5 dX8_voids_23 ?_
        obtain ⟨g7, h⟩ := tm_gd_some h
        refine tm_get (C := RX1) (T := TX1) (N := 12) (v := .int (M x4 4)) hx hb hts nX8_voids_X1 hown hK hP (hF _ (tm_lt g7)) (tm_mkX1 g7 _) rfl 4 (by decide) (hts _ kX8_voids_2) rfl dX8_voids_24 ?_
        refine lv_if_eq (tgt := 36) hx hb dX8_voids_27 (by decide) (fun c8 => ?_) (fun c8 => ?_)
        · rw [if_pos c8] at h
          refine lv_iinc (v := v2 + 1) (lv' := [(2, .int (v2 + 1)), (0, .ref (g.2.2 + o0)), (1, .int v1)]) hx hb dX8_voids_36 hl (k := 2) rfl rfl (by decide) rfl (fun ls hl => ?_)
          refine lv_goto (tgt := 4) hx hb dX8_voids_39 (by decide) ?_
          exact ih v1 (v2 + 1) h _ _ _ hP hS (lv_sub hl [1, 2, 0] rfl)
        · rw [if_neg c8] at h
          refine lv_iload_n hx hb dX8_voids_30 rfl (lv_at hl 1 rfl) ?_
          refine lv_iconst (v := 1) hx hb dX8_voids_31 (by decide) ?_
          refine lv_iload_n hx hb dX8_voids_32 rfl (lv_at hl 2 rfl) ?_
          refine lv_ishl hx hb dX8_voids_33 ?_
          refine lv_ior hx hb dX8_voids_34 ?_
          refine tm_nam h (fun x9 h => ?_)
          refine lv_istore_n (lv' := [(1, .int x9), (0, .ref (g.2.2 + o0)), (2, .int v2)]) hx hb dX8_voids_35 rfl hl (by decide) rfl (fun ls hl => ?_)
          refine lv_iinc (v := v2 + 1) (lv' := [(2, .int (v2 + 1)), (1, .int x9), (0, .ref (g.2.2 + o0))]) hx hb dX8_voids_36 hl (k := 2) rfl rfl (by decide) rfl (fun ls hl => ?_)
          refine lv_goto (tgt := 4) hx hb dX8_voids_39 (by decide) ?_
          exact ih x9 (v2 + 1) h _ _ _ hP hS (lv_sub hl [2, 1, 0] rfl)
set_option maxHeartbeats 4000000 in
set_option maxRecDepth 100000 in
theorem c_X8_voids (l : Launch) (g : tm_G) (A : Nat → Prop) (L : List Nat) (hD : ∀ M, va_D A (tm_ws g L M)) (hF : ∀ o, tm_all o → o ∈ L) (M : tm_M) (o0 : Nat) (r0 : Int32) (h : f_X8_voids M o0 = some r0) : Met l yX8_voids wsX8_voids { frames := 0, cells := 0, slots := 0, locals := 0 } (tm_PC g A L M [.ref (g.2.2 + o0)]) (tm_QI g A L (r0, M)) 0 0 A := by
  refine tm_start (cc := cX8_voids) (nL := 3) (ret := (some .int)) (F := tm_all) (plainFor_of_name (by decide)) rfl (Nat.le_of_ble_eq_true rfl) hD hF (fun p e s m args below meth c ls C0 hP hS hl => ?_)
  have hl : lv_has ls 3 [(0, .ref (g.2.2 + o0))] := hl
  have C0 : tm_C p m c cX8_voids 3 s args wsX8_voids RX8 meth (some .int) g A L tm_all := C0
  obtain ⟨⟨hx, hb, hml, hown, hts⟩, hr, hlk, hK, hD, hG, hF⟩ := id C0
  unfold f_X8_voids at h
  obtain ⟨g1, h⟩ := tm_gd_some h
  refine lv_iconst (v := 0) hx hb dX8_voids_0 (by decide) ?_
  refine lv_istore_n (lv' := [(1, .int 0), (0, .ref (g.2.2 + o0))]) hx hb dX8_voids_1 rfl hl (by decide) rfl (fun ls hl => ?_)
  refine lv_iconst (v := 0) hx hb dX8_voids_2 (by decide) ?_
  refine lv_istore_n (lv' := [(2, .int 0), (1, .int 0), (0, .ref (g.2.2 + o0))]) hx hb dX8_voids_3 rfl hl (by decide) rfl (fun ls hl => ?_)
  refine w_X8_voids_L4 C0 M o0 g1 _ r0 (fun v10 v11 h H locs ls hP hS hl => ?_) 1000 0 0 h _ _ _ hP hS (lv_sub hl [2, 1, 0] rfl)
  refine lv_iload_n hx hb dX8_voids_42 rfl (lv_at hl 1 rfl) ?_
  exact tm_iret C0 (by rw [Option.some.inj h]) hP hS dX8_voids_43
/-! X9_write -/
theorem nX9_write_X9 : ∀ w ∈ wsX90, w ∈ wsX9_write := by decide +kernel
theorem kX9_write_0 : Cond.fieldLink RX9 13 "QuarrelDesk" "text" "LQuarrelDesk$Text;" ∈ wsX9_write := by decide +kernel
theorem nX9_write_X7 : ∀ w ∈ wsX70, w ∈ wsX9_write := by decide +kernel
theorem kX9_write_1 : Cond.fieldLink RX9 85 "QuarrelDesk$Text" "length" "I" ∈ wsX9_write := by decide +kernel
def f_X9_write (M : tm_M) (p1 : Int32) : Option (Int32 × tm_M) :=
  (f_X9_outside p1 0 255).bind fun r1 =>
  if r1 = 0 then
    (f_X7_append M p1).bind fun r4 =>
    if r4.1 = 0 then
      some ((-5), r4.2)
    else
      some (r4.2 2 4, r4.2)
  else
    some ((-3), M)
set_option maxHeartbeats 4000000 in
set_option maxRecDepth 100000 in
theorem c_X9_write (l : Launch) (g : tm_G) (A : Nat → Prop) (L : List Nat) (hD : ∀ M, va_D A (tm_ws g L M)) (hF : ∀ o, tm_all o → o ∈ L) (M : tm_M) (p1 : Int32) (R0 : Int32 × tm_M) (h : f_X9_write M p1 = some R0) : Met l yX9_write wsX9_write { frames := 1, cells := 0, slots := 0, locals := 22 } (tm_PC g A L M [.ref (g.2.2 + 0), .int p1]) (tm_QI g A L R0) 0 0 A := by
  refine tm_start (cc := cX9_write) (nL := 2) (ret := (some .int)) (F := tm_all) (plainFor_of_name (by decide)) rfl (Nat.le_of_ble_eq_true rfl) hD hF (fun p e s m args below meth c ls C0 hP hS hl => ?_)
  have hl : lv_has ls 2 [(0, .ref (g.2.2 + 0)), (1, .int p1)] := hl
  have C0 : tm_C p m c cX9_write 2 s args wsX9_write RX9 meth (some .int) g A L tm_all := C0
  obtain ⟨⟨hx, hb, hml, hown, hts⟩, hr, hlk, hK, hD, hG, hF⟩ := id C0
  unfold f_X9_write at h
  refine lv_iload_n hx hb dX9_write_0 rfl (lv_at hl 1 rfl) ?_
  refine lv_iconst (v := 0) hx hb dX9_write_1 (by decide) ?_
  refine lv_sipush (v := 255) hx hb dX9_write_2 (by decide) ?_
  obtain ⟨r1, e2, h⟩ := tm_bd_some h
  refine tm_backI (r0 := r1) (M0 := M) (fun _ q => q) (tm_callS (As := [.int p1, .int 0, .int 255]) (rest := []) ⟨hx, hb, hml, hown, hts⟩ hK hG hP hS (c_X9_outside l g A L hD hF M p1 0 255 r1 e2) (va_cwS 3 hts gX9_write_X9_outside rfl rfl rfl (by decide +kernel) ⟨Nat.le_of_ble_eq_true rfl, Nat.le_of_ble_eq_true rfl⟩) rfl hl.1 (lv_room (Nat.le_of_ble_eq_true rfl)) dX9_write_5 ⟨Nat.zero_le _, Nat.zero_le _⟩) hS (fun H locs hP hS => ?_)
  refine lv_if_eq (tgt := 14) hx hb dX9_write_8 (by decide) (fun c3 => ?_) (fun c3 => ?_)
  · rw [if_pos c3] at h
    refine lv_aload_n hx hb dX9_write_14 rfl (lv_at hl 0 rfl) ?_
    refine tm_get (C := RX9) (T := TX9) (N := 15) (v := .ref (g.2.2 + 2)) hx hb hts nX9_write_X9 hown hK hP (hF 0 (by decide)) (tm_mkX9 (by decide) _) rfl 0 (by decide) (hts _ kX9_write_0) rfl dX9_write_15 ?_
    refine lv_iload_n hx hb dX9_write_18 rfl (lv_at hl 1 rfl) ?_
    obtain ⟨r4, e5, h⟩ := tm_bd_some h
    refine tm_backI (r0 := r4.1) (M0 := r4.2) (fun _ q => q) (tm_callV (As := [.int p1]) (rest := []) ⟨hx, hb, hml, hown, hts⟩ hK hG hP hS (c_X7_append l g A L hD hF M p1 r4 e5) (cwV 1 hts gX9_write_X7_append rfl rfl rfl (by decide +kernel) ⟨Nat.le_of_ble_eq_true rfl, Nat.le_of_ble_eq_true rfl⟩) (tm_recv hK hP (hF 2 (by decide)) (ci := 6) rfl (tm_mkX7 (by decide) _)) rfl hl.1 (lv_room (Nat.le_of_ble_eq_true rfl)) dX9_write_19 ⟨Nat.zero_le _, Nat.zero_le _⟩) hS (fun H locs hP hS => ?_)
    refine lv_if_eq (tgt := 35) hx hb dX9_write_22 (by decide) (fun c6 => ?_) (fun c6 => ?_)
    · rw [if_pos c6] at h
      refine lv_bipush (v := (-5)) hx hb dX9_write_35 (by decide) ?_
      exact tm_iret C0 (Option.some.inj h) hP hS dX9_write_37
    · rw [if_neg c6] at h
      refine lv_aload_n hx hb dX9_write_25 rfl (lv_at hl 0 rfl) ?_
      refine tm_get (C := RX9) (T := TX9) (N := 15) (v := .ref (g.2.2 + 2)) hx hb hts nX9_write_X9 hown hK hP (hF 0 (by decide)) (tm_mkX9 (by decide) _) rfl 0 (by decide) (hts _ kX9_write_0) rfl dX9_write_26 ?_
      refine tm_get (C := RX7) (T := TX7) (N := 8) (v := .int (r4.2 2 4)) hx hb hts nX9_write_X7 hown hK hP (hF 2 (by decide)) (tm_mkX7 (by decide) _) rfl 4 (by decide) (hts _ kX9_write_1) rfl dX9_write_29 ?_
      refine lv_goto (tgt := 37) hx hb dX9_write_32 (by decide) ?_
      exact tm_iret C0 (Option.some.inj h) hP hS dX9_write_37
  · rw [if_neg c3] at h
    refine lv_bipush (v := (-3)) hx hb dX9_write_11 (by decide) ?_
    exact tm_iret C0 (Option.some.inj h) hP hS dX9_write_13
/-! X9_erase -/
theorem nX9_erase_X9 : ∀ w ∈ wsX90, w ∈ wsX9_erase := by decide +kernel
theorem kX9_erase_0 : Cond.fieldLink RX9 13 "QuarrelDesk" "text" "LQuarrelDesk$Text;" ∈ wsX9_erase := by decide +kernel
theorem nX9_erase_X7 : ∀ w ∈ wsX70, w ∈ wsX9_erase := by decide +kernel
theorem kX9_erase_1 : Cond.fieldLink RX9 85 "QuarrelDesk$Text" "length" "I" ∈ wsX9_erase := by decide +kernel
def f_X9_erase (M : tm_M) : Option (Int32 × tm_M) :=
  (some (M 2 4)).bind fun x1 =>
  (some (tm_st M 2 4 0)).bind fun M2 =>
  some (x1, M2)
set_option maxHeartbeats 4000000 in
set_option maxRecDepth 100000 in
theorem c_X9_erase (l : Launch) (g : tm_G) (A : Nat → Prop) (L : List Nat) (hD : ∀ M, va_D A (tm_ws g L M)) (hF : ∀ o, tm_all o → o ∈ L) (M : tm_M) (R0 : Int32 × tm_M) (h : f_X9_erase M = some R0) : Met l yX9_erase wsX9_erase { frames := 0, cells := 0, slots := 0, locals := 0 } (tm_PC g A L M [.ref (g.2.2 + 0)]) (tm_QI g A L R0) 0 0 A := by
  refine tm_start (cc := cX9_erase) (nL := 2) (ret := (some .int)) (F := tm_all) (plainFor_of_name (by decide)) rfl (Nat.le_of_ble_eq_true rfl) hD hF (fun p e s m args below meth c ls C0 hP hS hl => ?_)
  have hl : lv_has ls 2 [(0, .ref (g.2.2 + 0))] := hl
  have C0 : tm_C p m c cX9_erase 2 s args wsX9_erase RX9 meth (some .int) g A L tm_all := C0
  obtain ⟨⟨hx, hb, hml, hown, hts⟩, hr, hlk, hK, hD, hG, hF⟩ := id C0
  unfold f_X9_erase at h
  refine lv_aload_n hx hb dX9_erase_0 rfl (lv_at hl 0 rfl) ?_
  refine tm_get (C := RX9) (T := TX9) (N := 15) (v := .ref (g.2.2 + 2)) hx hb hts nX9_erase_X9 hown hK hP (hF 0 (by decide)) (tm_mkX9 (by decide) _) rfl 0 (by decide) (hts _ kX9_erase_0) rfl dX9_erase_1 ?_
  refine tm_get (C := RX7) (T := TX7) (N := 8) (v := .int (M 2 4)) hx hb hts nX9_erase_X7 hown hK hP (hF 2 (by decide)) (tm_mkX7 (by decide) _) rfl 4 (by decide) (hts _ kX9_erase_1) rfl dX9_erase_4 ?_
  refine tm_nam h (fun x1 h => ?_)
  refine lv_istore_n (lv' := [(1, .int x1), (0, .ref (g.2.2 + 0))]) hx hb dX9_erase_7 rfl hl (by decide) rfl (fun ls hl => ?_)
  refine lv_aload_n hx hb dX9_erase_8 rfl (lv_at hl 1 rfl) ?_
  refine tm_get (C := RX9) (T := TX9) (N := 15) (v := .ref (g.2.2 + 2)) hx hb hts nX9_erase_X9 hown hK hP (hF 0 (by decide)) (tm_mkX9 (by decide) _) rfl 0 (by decide) (hts _ kX9_erase_0) rfl dX9_erase_9 ?_
  refine lv_iconst (v := 0) hx hb dX9_erase_12 (by decide) ?_
  obtain ⟨M2, e3, h⟩ := tm_bd_some h
  refine tm_put (C := RX7) (T := TX7) (N := 8) (ty := .int) (x := 0) hx hb hts nX9_erase_X7 tyX7 tyX7_ok nmX7 hown hK hP hD hS (hF 2 (by decide)) (tm_mkX7 (by decide)) rfl 4 (by decide) (hts _ kX9_erase_1) rfl (by decide +kernel) rfl rfl (Nat.le_of_ble_eq_true rfl) rfl (Option.some.inj e3) dX9_erase_13 (fun H locs hP hS => ?_)
  refine lv_iload_n hx hb dX9_erase_16 rfl (lv_at hl 0 rfl) ?_
  exact tm_iret C0 (Option.some.inj h) hP hS dX9_erase_17
/-! X9_fault -/
theorem nX9_fault_X9 : ∀ w ∈ wsX90, w ∈ wsX9_fault := by decide +kernel
theorem kX9_fault_0 : Cond.fieldLink RX9 13 "QuarrelDesk" "text" "LQuarrelDesk$Text;" ∈ wsX9_fault := by decide +kernel
theorem kX9_fault_1 : Cond.fieldLink RX9 39 "QuarrelDesk" "told" "LQuarrelDesk$Year;" ∈ wsX9_fault := by decide +kernel
theorem nX9_fault_X8 : ∀ w ∈ wsX80, w ∈ wsX9_fault := by decide +kernel
theorem kX9_fault_2 : Cond.fieldLink RX9 89 "QuarrelDesk$Year" "couples" "I" ∈ wsX9_fault := by decide +kernel
def f_X9_fault (M : tm_M) : Option (Int32 × tm_M) :=
  (f_X7_read M (M 11 2)).bind fun r1 =>
  some (r1.1, r1.2)
set_option maxHeartbeats 4000000 in
set_option maxRecDepth 100000 in
theorem c_X9_fault (l : Launch) (g : tm_G) (A : Nat → Prop) (L : List Nat) (hD : ∀ M, va_D A (tm_ws g L M)) (hF : ∀ o, tm_all o → o ∈ L) (M : tm_M) (R0 : Int32 × tm_M) (h : f_X9_fault M = some R0) : Met l yX9_fault wsX9_fault { frames := 7, cells := 0, slots := 0, locals := 155 } (tm_PC g A L M [.ref (g.2.2 + 0)]) (tm_QI g A L R0) 0 0 A := by
  refine tm_start (cc := cX9_fault) (nL := 1) (ret := (some .int)) (F := tm_all) (plainFor_of_name (by decide)) rfl (Nat.le_of_ble_eq_true rfl) hD hF (fun p e s m args below meth c ls C0 hP hS hl => ?_)
  have hl : lv_has ls 1 [(0, .ref (g.2.2 + 0))] := hl
  have C0 : tm_C p m c cX9_fault 1 s args wsX9_fault RX9 meth (some .int) g A L tm_all := C0
  obtain ⟨⟨hx, hb, hml, hown, hts⟩, hr, hlk, hK, hD, hG, hF⟩ := id C0
  unfold f_X9_fault at h
  refine lv_aload_n hx hb dX9_fault_0 rfl (lv_at hl 0 rfl) ?_
  refine tm_get (C := RX9) (T := TX9) (N := 15) (v := .ref (g.2.2 + 2)) hx hb hts nX9_fault_X9 hown hK hP (hF 0 (by decide)) (tm_mkX9 (by decide) _) rfl 0 (by decide) (hts _ kX9_fault_0) rfl dX9_fault_1 ?_
  refine lv_aload_n hx hb dX9_fault_4 rfl (lv_at hl 0 rfl) ?_
  refine tm_get (C := RX9) (T := TX9) (N := 15) (v := .ref (g.2.2 + 11)) hx hb hts nX9_fault_X9 hown hK hP (hF 0 (by decide)) (tm_mkX9 (by decide) _) rfl 2 (by decide) (hts _ kX9_fault_1) rfl dX9_fault_5 ?_
  refine tm_get (C := RX8) (T := TX8) (N := 4) (v := .int (M 11 2)) hx hb hts nX9_fault_X8 hown hK hP (hF 11 (by decide)) (tm_mkX8 (by decide) _) rfl 2 (by decide) (hts _ kX9_fault_2) rfl dX9_fault_8 ?_
  obtain ⟨r1, e2, h⟩ := tm_bd_some h
  refine tm_backI (r0 := r1.1) (M0 := r1.2) (fun _ q => q) (tm_callV (As := [.int (M 11 2)]) (rest := []) ⟨hx, hb, hml, hown, hts⟩ hK hG hP hS (c_X7_read l g A L hD hF M (M 11 2) r1 e2) (cwV 1 hts gX9_fault_X7_read rfl rfl rfl (by decide +kernel) ⟨Nat.le_of_ble_eq_true rfl, Nat.le_of_ble_eq_true rfl⟩) (tm_recv hK hP (hF 2 (by decide)) (ci := 6) rfl (tm_mkX7 (by decide) _)) rfl hl.1 (lv_room (Nat.le_of_ble_eq_true rfl)) dX9_fault_11 ⟨Nat.zero_le _, Nat.zero_le _⟩) hS (fun H locs hP hS => ?_)
  exact tm_iret C0 (Option.some.inj h) hP hS dX9_fault_14
