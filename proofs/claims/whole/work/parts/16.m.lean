/-! X10_mothers -/
def f_X10_mothers_L75 (k : Int32 → Int32 → Int32 → tm_M → Option (Int32 × tm_M)) (w1 : Int32) (w2 : Int32) (w3 : Int32) (w4 : Int32) (w5 : Int32) (w6 : Int32) (w7 : Int32) : Nat → Int32 → Int32 → Int32 → tm_M → Option (Int32 × tm_M)
  | 0, _, _, _, _ => none
  | n + 1, v8, v9, v10, M =>
    if w2 ≤ v10 then
      k v8 v9 v10 M
    else
      (f_X10_has w7 v10).bind fun r18 =>
      if r18 = 0 then
        (some (v8 * (10 - w3))).bind fun x21 =>
        (f_X10_has w7 v10).bind fun r22 =>
        if r22 = 0 then
          (f_X10_strainMore M 616 w1 0).bind fun M27 =>
          (f_X10_pass M27 616).bind fun r28 =>
          (f_X10_has r28.1 w1).bind fun r30 =>
          if r30 = 0 then
            if v9 = 0 then
              f_X10_mothers_L75 k w1 w2 w3 w4 w5 w6 w7 n x21 0 (v10 + 1) r28.2
            else
              f_X10_mothers_L75 k w1 w2 w3 w4 w5 w6 w7 n x21 1 (v10 + 1) r28.2
          else
            f_X10_mothers_L75 k w1 w2 w3 w4 w5 w6 w7 n x21 1 (v10 + 1) r28.2
        else
          (f_X10_strainMore M 616 w1 10).bind fun M36 =>
          (f_X10_pass M36 616).bind fun r37 =>
          (f_X10_has r37.1 w1).bind fun r39 =>
          if r39 = 0 then
            if v9 = 0 then
              f_X10_mothers_L75 k w1 w2 w3 w4 w5 w6 w7 n x21 0 (v10 + 1) r37.2
            else
              f_X10_mothers_L75 k w1 w2 w3 w4 w5 w6 w7 n x21 1 (v10 + 1) r37.2
          else
            f_X10_mothers_L75 k w1 w2 w3 w4 w5 w6 w7 n x21 1 (v10 + 1) r37.2
      else
        (some (v8 * w3)).bind fun x43 =>
        (f_X10_has w7 v10).bind fun r44 =>
        if r44 = 0 then
          (f_X10_strainMore M 616 w1 0).bind fun M49 =>
          (f_X10_pass M49 616).bind fun r50 =>
          (f_X10_has r50.1 w1).bind fun r52 =>
          if r52 = 0 then
            if v9 = 0 then
              f_X10_mothers_L75 k w1 w2 w3 w4 w5 w6 w7 n x43 0 (v10 + 1) r50.2
            else
              f_X10_mothers_L75 k w1 w2 w3 w4 w5 w6 w7 n x43 1 (v10 + 1) r50.2
          else
            f_X10_mothers_L75 k w1 w2 w3 w4 w5 w6 w7 n x43 1 (v10 + 1) r50.2
        else
          (f_X10_strainMore M 616 w1 10).bind fun M58 =>
          (f_X10_pass M58 616).bind fun r59 =>
          (f_X10_has r59.1 w1).bind fun r61 =>
          if r61 = 0 then
            if v9 = 0 then
              f_X10_mothers_L75 k w1 w2 w3 w4 w5 w6 w7 n x43 0 (v10 + 1) r59.2
            else
              f_X10_mothers_L75 k w1 w2 w3 w4 w5 w6 w7 n x43 1 (v10 + 1) r59.2
          else
            f_X10_mothers_L75 k w1 w2 w3 w4 w5 w6 w7 n x43 1 (v10 + 1) r59.2
def f_X10_mothers_L53 (k : Int32 → Int32 → Int32 → tm_M → Option (Int32 × tm_M)) (w1 : Int32) (w2 : Int32) (w3 : Int32) (w4 : Int32) : Nat → Int32 → Int32 → Int32 → tm_M → Option (Int32 × tm_M)
  | 0, _, _, _, _ => none
  | n + 1, v5, v6, v7, M =>
    if (1 <<< (w2 &&& 31)) ≤ v7 then
      k v5 v6 v7 M
    else
      (f_X10_layTried M 0).bind fun M16 =>
      f_X10_mothers_L75 (fun v65 v66 v67 M68 =>
        if v66 = 0 then
          (some (v5 + 0)).bind fun x70 =>
          (some (v6 + v65)).bind fun x71 =>
          f_X10_mothers_L53 k w1 w2 w3 w4 n x70 x71 (v7 + 1) M68
        else
          (some (v5 + v65)).bind fun x72 =>
          (some (v6 + v65)).bind fun x73 =>
          f_X10_mothers_L53 k w1 w2 w3 w4 n x72 x73 (v7 + 1) M68) w1 w2 w3 w4 v5 v6 v7 1000 1 0 0 M16
def f_X10_mothers_L197 (k : Int32 → Int32 → Option (Int32 × tm_M)) (M : tm_M) (w1 : Int32) (w2 : Int32) (w3 : Int32) (w4 : Int32) (w5 : Int32) (w6 : Int32) : Nat → Int32 → Int32 → Option (Int32 × tm_M)
  | 0, _, _ => none
  | n + 1, v7, v8 =>
    if v8 = 0 then
      k v7 v8
    else
      tm_gd (¬ v8 = 0) <|
      (some (v7 - v7 / v8 * v8)).bind fun x80 =>
      f_X10_mothers_L197 k M w1 w2 w3 w4 w5 w6 n v8 x80
def f_X10_mothers (M : tm_M) (p1 : Int32) (p2 : Int32) (p3 : Int32) (p4 : Int32) : Option (Int32 × tm_M) :=
  (f_X10_isCouple M p1).bind fun r1 =>
  if r1 = 0 then
    some ((-2), M)
  else
    (f_X10_in p2 0 6).bind fun r4 =>
    if r4 = 0 then
      some ((-3), M)
    else
      (f_X10_in p3 0 10).bind fun r7 =>
      if r7 = 0 then
        some ((-3), M)
      else
        (f_X10_in p4 0 1).bind fun r10 =>
        if r10 = 0 then
          some ((-3), M)
        else
          f_X10_mothers_L53 (fun v74 v75 v76 M77 =>
            f_X10_mothers_L197 (fun v81 v82 =>
              if p4 = 0 then
                tm_gd (¬ v81 = 0) <|
                some (v74 / v81, M77)
              else
                tm_gd (¬ v81 = 0) <|
                some (v75 / v81, M77)) M77 p1 p2 p3 p4 v74 v75 1000 v74 v75) p1 p2 p3 p4 1000 0 0 0 M
set_option maxHeartbeats 4000000 in
set_option maxRecDepth 100000 in
theorem w_X10_mothers_L75 {p : Program} {l : Launch} {e : Env} {s : State} {m : MethodId} {args : Array Value} {below : List Frame} {meth : Method} {c : Code} {g : tm_G} {A : Nat → Prop} {L : List Nat} (C0 : tm_C p m c cX10_mothers 11 s args wsX10_mothers RX10 meth (some .int) g A L tm_all) (w1 : Int32) (w2 : Int32) (w3 : Int32) (w4 : Int32) (w5 : Int32) (w6 : Int32) (w7 : Int32) (k : Int32 → Int32 → Int32 → tm_M → Option (Int32 × tm_M)) (R0 : Int32 × tm_M) (hk : ∀ (v8 : Int32) (v9 : Int32) (v10 : Int32) (M : tm_M), k v8 v9 v10 M = some R0 → ∀ (H : Heap) (locs : List Loc) (ls : Array Slot), va_P g.1 vwCl (tm_ws g L M) H → va_S A s.heap H locs → lv_has ls 11 [(0, .ref (g.2.2 + 127)), (1, .int w1), (2, .int w2), (3, .int w3), (4, .int w4), (5, .int w5), (6, .int w6), (7, .int w7), (8, .int v8), (9, .int v9), (10, .int v10)] → W p l e { frames := 5, cells := 0, slots := 0, locals := 115 } s m args below meth c H locs 0 0 (MQ below (tm_QI g A L R0) args s 0 0 A) (F0 m 160 ls [])) : ∀ (n : Nat) (v8 : Int32) (v9 : Int32) (v10 : Int32) (M : tm_M), f_X10_mothers_L75 k w1 w2 w3 w4 w5 w6 w7 n v8 v9 v10 M = some R0 → ∀ (H : Heap) (locs : List Loc) (ls : Array Slot), va_P g.1 vwCl (tm_ws g L M) H → va_S A s.heap H locs → lv_has ls 11 [(0, .ref (g.2.2 + 127)), (1, .int w1), (2, .int w2), (3, .int w3), (4, .int w4), (5, .int w5), (6, .int w6), (7, .int w7), (8, .int v8), (9, .int v9), (10, .int v10)] → W p l e { frames := 5, cells := 0, slots := 0, locals := 115 } s m args below meth c H locs 0 0 (MQ below (tm_QI g A L R0) args s 0 0 A) (F0 m 75 ls []) := by
  obtain ⟨⟨hx, hb, hml, hown, hts⟩, hr, hlk, hK, hD, hG, hF⟩ := id C0
  intro n
  induction n with
  | zero =>
    intro v8 v9 v10 M h
    simp [f_X10_mothers_L75] at h
  | succ n ih =>
    intro v8 v9 v10 M h H locs ls hP hS hl
    rw [f_X10_mothers_L75] at h
    refine lv_iload hx hb dX10_mothers_75 (lv_at hl 10 rfl) ?_
    refine lv_iload_n hx hb dX10_mothers_77 rfl (lv_at hl 2 rfl) ?_
    refine lv_icmp_ge (tgt := 160) hx hb dX10_mothers_78 (by decide) (fun c17 => ?_) (fun c17 => ?_)
    · rw [if_pos c17] at h
      exact hk v8 v9 v10 M h _ _ _ hP hS (lv_sub hl [0, 1, 2, 3, 4, 5, 6, 7, 8, 9, 10] rfl)
    · rw [if_neg c17] at h
      refine lv_iload hx hb dX10_mothers_81 (lv_at hl 8 rfl) ?_
      refine lv_iload hx hb dX10_mothers_83 (lv_at hl 7 rfl) ?_
      refine lv_iload hx hb dX10_mothers_85 (lv_at hl 10 rfl) ?_
      obtain ⟨r18, e19, h⟩ := tm_bd_some h
      refine tm_backI (r0 := r18) (M0 := M) (fun _ q => q) (tm_callS (As := [.int w7, .int v10]) (rest := [.int v8]) ⟨hx, hb, hml, hown, hts⟩ hK hG hP hS (c_X10_has l g A L hD hF M w7 v10 r18 e19) (va_cwS 2 hts gX10_mothers_X10_has rfl rfl rfl (by decide +kernel) ⟨Nat.le_of_ble_eq_true rfl, Nat.le_of_ble_eq_true rfl⟩) rfl hl.1 (lv_room (Nat.le_of_ble_eq_true rfl)) dX10_mothers_87 ⟨Nat.zero_le _, Nat.zero_le _⟩) hS (fun H locs hP hS => ?_)
      refine lv_if_eq (tgt := 97) hx hb dX10_mothers_90 (by decide) (fun c20 => ?_) (fun c20 => ?_)
      · rw [if_pos c20] at h
        refine lv_bipush (v := 10) hx hb dX10_mothers_97 (by decide) ?_
        refine lv_iload_n hx hb dX10_mothers_99 rfl (lv_at hl 3 rfl) ?_
        refine lv_isub hx hb dX10_mothers_100 ?_
        refine lv_imul hx hb dX10_mothers_101 ?_
        refine tm_nam h (fun x21 h => ?_)
        refine lv_istore (lv' := [(8, .int x21), (0, .ref (g.2.2 + 127)), (1, .int w1), (2, .int w2), (3, .int w3), (4, .int w4), (5, .int w5), (6, .int w6), (7, .int w7), (9, .int v9), (10, .int v10)]) hx hb dX10_mothers_102 hl (by decide) rfl (fun ls hl => ?_)
        refine lv_aload_n hx hb dX10_mothers_104 rfl (lv_at hl 1 rfl) ?_
        refine lv_sipush (v := 616) hx hb dX10_mothers_105 (by decide) ?_
        refine lv_iload_n hx hb dX10_mothers_108 rfl (lv_at hl 2 rfl) ?_
        refine lv_iload hx hb dX10_mothers_109 (lv_at hl 8 rfl) ?_
        refine lv_iload hx hb dX10_mothers_111 (lv_at hl 10 rfl) ?_
        obtain ⟨r22, e23, h⟩ := tm_bd_some h
        refine tm_backI (r0 := r22) (M0 := M) (fun _ q => q) (tm_callS (As := [.int w7, .int v10]) (rest := [.int w1, .int 616, .ref (g.2.2 + 127)]) ⟨hx, hb, hml, hown, hts⟩ hK hG hP hS (c_X10_has l g A L hD hF M w7 v10 r22 e23) (va_cwS 2 hts gX10_mothers_X10_has rfl rfl rfl (by decide +kernel) ⟨Nat.le_of_ble_eq_true rfl, Nat.le_of_ble_eq_true rfl⟩) rfl hl.1 (lv_room (Nat.le_of_ble_eq_true rfl)) dX10_mothers_113 ⟨Nat.zero_le _, Nat.zero_le _⟩) hS (fun H locs hP hS => ?_)
        refine lv_if_eq (tgt := 124) hx hb dX10_mothers_116 (by decide) (fun c24 => ?_) (fun c24 => ?_)
        · rw [if_pos c24] at h
          refine lv_iconst (v := 0) hx hb dX10_mothers_124 (by decide) ?_
          obtain ⟨M27, e26, h⟩ := tm_bd_some h
          refine tm_backV (M0 := M27) (fun _ q => q) (tm_callV (As := [.int 616, .int w1, .int 0]) (rest := []) ⟨hx, hb, hml, hown, hts⟩ hK hG hP hS (c_X10_strainMore l g A L hD hF M 616 w1 0 M27 e26) (cwV 3 hts gX10_mothers_X10_strainMore rfl rfl rfl (by decide +kernel) ⟨Nat.le_of_ble_eq_true rfl, Nat.le_of_ble_eq_true rfl⟩) (tm_recv hK hP (hF 127 (by decide)) (ci := 9) rfl (tm_mkX10 (by decide) _)) rfl hl.1 (lv_room (Nat.le_of_ble_eq_true rfl)) dX10_mothers_125 ⟨Nat.zero_le _, Nat.zero_le _⟩) hS (fun H locs hP hS => ?_)
          refine lv_aload_n hx hb dX10_mothers_128 rfl (lv_at hl 1 rfl) ?_
          refine lv_sipush (v := 616) hx hb dX10_mothers_129 (by decide) ?_
          obtain ⟨r28, e29, h⟩ := tm_bd_some h
          refine tm_backI (r0 := r28.1) (M0 := r28.2) (fun _ q => q) (tm_callV (As := [.int 616]) (rest := []) ⟨hx, hb, hml, hown, hts⟩ hK hG hP hS (c_X10_pass l g A L hD hF M27 616 r28 e29) (cwV 1 hts gX10_mothers_X10_pass rfl rfl rfl (by decide +kernel) ⟨Nat.le_of_ble_eq_true rfl, Nat.le_of_ble_eq_true rfl⟩) (tm_recv hK hP (hF 127 (by decide)) (ci := 9) rfl (tm_mkX10 (by decide) _)) rfl hl.1 (lv_room (Nat.le_of_ble_eq_true rfl)) dX10_mothers_132 ⟨Nat.zero_le _, Nat.zero_le _⟩) hS (fun H locs hP hS => ?_)
          refine lv_iload_n hx hb dX10_mothers_135 rfl (lv_at hl 2 rfl) ?_
          obtain ⟨r30, e31, h⟩ := tm_bd_some h
          refine tm_backI (r0 := r30) (M0 := r28.2) (fun _ q => q) (tm_callS (As := [.int r28.1, .int w1]) (rest := []) ⟨hx, hb, hml, hown, hts⟩ hK hG hP hS (c_X10_has l g A L hD hF r28.2 r28.1 w1 r30 e31) (va_cwS 2 hts gX10_mothers_X10_has rfl rfl rfl (by decide +kernel) ⟨Nat.le_of_ble_eq_true rfl, Nat.le_of_ble_eq_true rfl⟩) rfl hl.1 (lv_room (Nat.le_of_ble_eq_true rfl)) dX10_mothers_136 ⟨Nat.zero_le _, Nat.zero_le _⟩) hS (fun H locs hP hS => ?_)
          refine lv_if_ne (tgt := 147) hx hb dX10_mothers_139 (by decide) (fun c32 => ?_) (fun c32 => ?_)
          · rw [if_neg c32] at h
            refine lv_iconst (v := 1) hx hb dX10_mothers_147 (by decide) ?_
            refine lv_goto (tgt := 152) hx hb dX10_mothers_148 (by decide) ?_
            refine lv_istore (lv' := [(9, .int 1), (8, .int x21), (0, .ref (g.2.2 + 127)), (1, .int w1), (2, .int w2), (3, .int w3), (4, .int w4), (5, .int w5), (6, .int w6), (7, .int w7), (10, .int v10)]) hx hb dX10_mothers_152 hl (by decide) rfl (fun ls hl => ?_)
            refine lv_iinc (v := v10 + 1) (lv' := [(10, .int (v10 + 1)), (9, .int 1), (8, .int x21), (0, .ref (g.2.2 + 127)), (1, .int w1), (2, .int w2), (3, .int w3), (4, .int w4), (5, .int w5), (6, .int w6), (7, .int w7)]) hx hb dX10_mothers_154 hl (k := 10) rfl rfl (by decide) rfl (fun ls hl => ?_)
            refine lv_goto (tgt := 75) hx hb dX10_mothers_157 (by decide) ?_
            exact ih x21 1 (v10 + 1) r28.2 h _ _ _ hP hS (lv_sub hl [3, 4, 5, 6, 7, 8, 9, 10, 2, 1, 0] rfl)
          · rw [if_pos c32] at h
            refine lv_iload hx hb dX10_mothers_142 (lv_at hl 9 rfl) ?_
            refine lv_if_eq (tgt := 151) hx hb dX10_mothers_144 (by decide) (fun c33 => ?_) (fun c33 => ?_)
            · rw [if_pos c33] at h
              refine lv_iconst (v := 0) hx hb dX10_mothers_151 (by decide) ?_
              refine lv_istore (lv' := [(9, .int 0), (8, .int x21), (0, .ref (g.2.2 + 127)), (1, .int w1), (2, .int w2), (3, .int w3), (4, .int w4), (5, .int w5), (6, .int w6), (7, .int w7), (10, .int v10)]) hx hb dX10_mothers_152 hl (by decide) rfl (fun ls hl => ?_)
              refine lv_iinc (v := v10 + 1) (lv' := [(10, .int (v10 + 1)), (9, .int 0), (8, .int x21), (0, .ref (g.2.2 + 127)), (1, .int w1), (2, .int w2), (3, .int w3), (4, .int w4), (5, .int w5), (6, .int w6), (7, .int w7)]) hx hb dX10_mothers_154 hl (k := 10) rfl rfl (by decide) rfl (fun ls hl => ?_)
              refine lv_goto (tgt := 75) hx hb dX10_mothers_157 (by decide) ?_
              exact ih x21 0 (v10 + 1) r28.2 h _ _ _ hP hS (lv_sub hl [3, 4, 5, 6, 7, 8, 9, 10, 2, 1, 0] rfl)
            · rw [if_neg c33] at h
              refine lv_iconst (v := 1) hx hb dX10_mothers_147 (by decide) ?_
              refine lv_goto (tgt := 152) hx hb dX10_mothers_148 (by decide) ?_
              refine lv_istore (lv' := [(9, .int 1), (8, .int x21), (0, .ref (g.2.2 + 127)), (1, .int w1), (2, .int w2), (3, .int w3), (4, .int w4), (5, .int w5), (6, .int w6), (7, .int w7), (10, .int v10)]) hx hb dX10_mothers_152 hl (by decide) rfl (fun ls hl => ?_)
              refine lv_iinc (v := v10 + 1) (lv' := [(10, .int (v10 + 1)), (9, .int 1), (8, .int x21), (0, .ref (g.2.2 + 127)), (1, .int w1), (2, .int w2), (3, .int w3), (4, .int w4), (5, .int w5), (6, .int w6), (7, .int w7)]) hx hb dX10_mothers_154 hl (k := 10) rfl rfl (by decide) rfl (fun ls hl => ?_)
              refine lv_goto (tgt := 75) hx hb dX10_mothers_157 (by decide) ?_
              exact ih x21 1 (v10 + 1) r28.2 h _ _ _ hP hS (lv_sub hl [3, 4, 5, 6, 7, 8, 9, 10, 2, 1, 0] rfl)
        · rw [if_neg c24] at h
          refine lv_bipush (v := 10) hx hb dX10_mothers_119 (by decide) ?_
          refine lv_goto (tgt := 125) hx hb dX10_mothers_121 (by decide) ?_
          obtain ⟨M36, e35, h⟩ := tm_bd_some h
          refine tm_backV (M0 := M36) (fun _ q => q) (tm_callV (As := [.int 616, .int w1, .int 10]) (rest := []) ⟨hx, hb, hml, hown, hts⟩ hK hG hP hS (c_X10_strainMore l g A L hD hF M 616 w1 10 M36 e35) (cwV 3 hts gX10_mothers_X10_strainMore rfl rfl rfl (by decide +kernel) ⟨Nat.le_of_ble_eq_true rfl, Nat.le_of_ble_eq_true rfl⟩) (tm_recv hK hP (hF 127 (by decide)) (ci := 9) rfl (tm_mkX10 (by decide) _)) rfl hl.1 (lv_room (Nat.le_of_ble_eq_true rfl)) dX10_mothers_125 ⟨Nat.zero_le _, Nat.zero_le _⟩) hS (fun H locs hP hS => ?_)
          refine lv_aload_n hx hb dX10_mothers_128 rfl (lv_at hl 1 rfl) ?_
          refine lv_sipush (v := 616) hx hb dX10_mothers_129 (by decide) ?_
          obtain ⟨r37, e38, h⟩ := tm_bd_some h
          refine tm_backI (r0 := r37.1) (M0 := r37.2) (fun _ q => q) (tm_callV (As := [.int 616]) (rest := []) ⟨hx, hb, hml, hown, hts⟩ hK hG hP hS (c_X10_pass l g A L hD hF M36 616 r37 e38) (cwV 1 hts gX10_mothers_X10_pass rfl rfl rfl (by decide +kernel) ⟨Nat.le_of_ble_eq_true rfl, Nat.le_of_ble_eq_true rfl⟩) (tm_recv hK hP (hF 127 (by decide)) (ci := 9) rfl (tm_mkX10 (by decide) _)) rfl hl.1 (lv_room (Nat.le_of_ble_eq_true rfl)) dX10_mothers_132 ⟨Nat.zero_le _, Nat.zero_le _⟩) hS (fun H locs hP hS => ?_)
          refine lv_iload_n hx hb dX10_mothers_135 rfl (lv_at hl 2 rfl) ?_
          obtain ⟨r39, e40, h⟩ := tm_bd_some h
          refine tm_backI (r0 := r39) (M0 := r37.2) (fun _ q => q) (tm_callS (As := [.int r37.1, .int w1]) (rest := []) ⟨hx, hb, hml, hown, hts⟩ hK hG hP hS (c_X10_has l g A L hD hF r37.2 r37.1 w1 r39 e40) (va_cwS 2 hts gX10_mothers_X10_has rfl rfl rfl (by decide +kernel) ⟨Nat.le_of_ble_eq_true rfl, Nat.le_of_ble_eq_true rfl⟩) rfl hl.1 (lv_room (Nat.le_of_ble_eq_true rfl)) dX10_mothers_136 ⟨Nat.zero_le _, Nat.zero_le _⟩) hS (fun H locs hP hS => ?_)
          refine lv_if_ne (tgt := 147) hx hb dX10_mothers_139 (by decide) (fun c41 => ?_) (fun c41 => ?_)
          · rw [if_neg c41] at h
            refine lv_iconst (v := 1) hx hb dX10_mothers_147 (by decide) ?_
            refine lv_goto (tgt := 152) hx hb dX10_mothers_148 (by decide) ?_
            refine lv_istore (lv' := [(9, .int 1), (8, .int x21), (0, .ref (g.2.2 + 127)), (1, .int w1), (2, .int w2), (3, .int w3), (4, .int w4), (5, .int w5), (6, .int w6), (7, .int w7), (10, .int v10)]) hx hb dX10_mothers_152 hl (by decide) rfl (fun ls hl => ?_)
            refine lv_iinc (v := v10 + 1) (lv' := [(10, .int (v10 + 1)), (9, .int 1), (8, .int x21), (0, .ref (g.2.2 + 127)), (1, .int w1), (2, .int w2), (3, .int w3), (4, .int w4), (5, .int w5), (6, .int w6), (7, .int w7)]) hx hb dX10_mothers_154 hl (k := 10) rfl rfl (by decide) rfl (fun ls hl => ?_)
            refine lv_goto (tgt := 75) hx hb dX10_mothers_157 (by decide) ?_
            exact ih x21 1 (v10 + 1) r37.2 h _ _ _ hP hS (lv_sub hl [3, 4, 5, 6, 7, 8, 9, 10, 2, 1, 0] rfl)
          · rw [if_pos c41] at h
            refine lv_iload hx hb dX10_mothers_142 (lv_at hl 9 rfl) ?_
            refine lv_if_eq (tgt := 151) hx hb dX10_mothers_144 (by decide) (fun c42 => ?_) (fun c42 => ?_)
            · rw [if_pos c42] at h
              refine lv_iconst (v := 0) hx hb dX10_mothers_151 (by decide) ?_
              refine lv_istore (lv' := [(9, .int 0), (8, .int x21), (0, .ref (g.2.2 + 127)), (1, .int w1), (2, .int w2), (3, .int w3), (4, .int w4), (5, .int w5), (6, .int w6), (7, .int w7), (10, .int v10)]) hx hb dX10_mothers_152 hl (by decide) rfl (fun ls hl => ?_)
              refine lv_iinc (v := v10 + 1) (lv' := [(10, .int (v10 + 1)), (9, .int 0), (8, .int x21), (0, .ref (g.2.2 + 127)), (1, .int w1), (2, .int w2), (3, .int w3), (4, .int w4), (5, .int w5), (6, .int w6), (7, .int w7)]) hx hb dX10_mothers_154 hl (k := 10) rfl rfl (by decide) rfl (fun ls hl => ?_)
              refine lv_goto (tgt := 75) hx hb dX10_mothers_157 (by decide) ?_
              exact ih x21 0 (v10 + 1) r37.2 h _ _ _ hP hS (lv_sub hl [3, 4, 5, 6, 7, 8, 9, 10, 2, 1, 0] rfl)
            · rw [if_neg c42] at h
              refine lv_iconst (v := 1) hx hb dX10_mothers_147 (by decide) ?_
              refine lv_goto (tgt := 152) hx hb dX10_mothers_148 (by decide) ?_
              refine lv_istore (lv' := [(9, .int 1), (8, .int x21), (0, .ref (g.2.2 + 127)), (1, .int w1), (2, .int w2), (3, .int w3), (4, .int w4), (5, .int w5), (6, .int w6), (7, .int w7), (10, .int v10)]) hx hb dX10_mothers_152 hl (by decide) rfl (fun ls hl => ?_)
              refine lv_iinc (v := v10 + 1) (lv' := [(10, .int (v10 + 1)), (9, .int 1), (8, .int x21), (0, .ref (g.2.2 + 127)), (1, .int w1), (2, .int w2), (3, .int w3), (4, .int w4), (5, .int w5), (6, .int w6), (7, .int w7)]) hx hb dX10_mothers_154 hl (k := 10) rfl rfl (by decide) rfl (fun ls hl => ?_)
              refine lv_goto (tgt := 75) hx hb dX10_mothers_157 (by decide) ?_
              exact ih x21 1 (v10 + 1) r37.2 h _ _ _ hP hS (lv_sub hl [3, 4, 5, 6, 7, 8, 9, 10, 2, 1, 0] rfl)
      · rw [if_neg c20] at h
        refine lv_iload_n hx hb dX10_mothers_93 rfl (lv_at hl 3 rfl) ?_
        refine lv_goto (tgt := 101) hx hb dX10_mothers_94 (by decide) ?_
        refine lv_imul hx hb dX10_mothers_101 ?_
        refine tm_nam h (fun x43 h => ?_)
        refine lv_istore (lv' := [(8, .int x43), (0, .ref (g.2.2 + 127)), (1, .int w1), (2, .int w2), (3, .int w3), (4, .int w4), (5, .int w5), (6, .int w6), (7, .int w7), (9, .int v9), (10, .int v10)]) hx hb dX10_mothers_102 hl (by decide) rfl (fun ls hl => ?_)
        refine lv_aload_n hx hb dX10_mothers_104 rfl (lv_at hl 1 rfl) ?_
        refine lv_sipush (v := 616) hx hb dX10_mothers_105 (by decide) ?_
        refine lv_iload_n hx hb dX10_mothers_108 rfl (lv_at hl 2 rfl) ?_
        refine lv_iload hx hb dX10_mothers_109 (lv_at hl 8 rfl) ?_
        refine lv_iload hx hb dX10_mothers_111 (lv_at hl 10 rfl) ?_
        obtain ⟨r44, e45, h⟩ := tm_bd_some h
        refine tm_backI (r0 := r44) (M0 := M) (fun _ q => q) (tm_callS (As := [.int w7, .int v10]) (rest := [.int w1, .int 616, .ref (g.2.2 + 127)]) ⟨hx, hb, hml, hown, hts⟩ hK hG hP hS (c_X10_has l g A L hD hF M w7 v10 r44 e45) (va_cwS 2 hts gX10_mothers_X10_has rfl rfl rfl (by decide +kernel) ⟨Nat.le_of_ble_eq_true rfl, Nat.le_of_ble_eq_true rfl⟩) rfl hl.1 (lv_room (Nat.le_of_ble_eq_true rfl)) dX10_mothers_113 ⟨Nat.zero_le _, Nat.zero_le _⟩) hS (fun H locs hP hS => ?_)
        refine lv_if_eq (tgt := 124) hx hb dX10_mothers_116 (by decide) (fun c46 => ?_) (fun c46 => ?_)
        · rw [if_pos c46] at h
          refine lv_iconst (v := 0) hx hb dX10_mothers_124 (by decide) ?_
          obtain ⟨M49, e48, h⟩ := tm_bd_some h
          refine tm_backV (M0 := M49) (fun _ q => q) (tm_callV (As := [.int 616, .int w1, .int 0]) (rest := []) ⟨hx, hb, hml, hown, hts⟩ hK hG hP hS (c_X10_strainMore l g A L hD hF M 616 w1 0 M49 e48) (cwV 3 hts gX10_mothers_X10_strainMore rfl rfl rfl (by decide +kernel) ⟨Nat.le_of_ble_eq_true rfl, Nat.le_of_ble_eq_true rfl⟩) (tm_recv hK hP (hF 127 (by decide)) (ci := 9) rfl (tm_mkX10 (by decide) _)) rfl hl.1 (lv_room (Nat.le_of_ble_eq_true rfl)) dX10_mothers_125 ⟨Nat.zero_le _, Nat.zero_le _⟩) hS (fun H locs hP hS => ?_)
          refine lv_aload_n hx hb dX10_mothers_128 rfl (lv_at hl 1 rfl) ?_
          refine lv_sipush (v := 616) hx hb dX10_mothers_129 (by decide) ?_
          obtain ⟨r50, e51, h⟩ := tm_bd_some h
          refine tm_backI (r0 := r50.1) (M0 := r50.2) (fun _ q => q) (tm_callV (As := [.int 616]) (rest := []) ⟨hx, hb, hml, hown, hts⟩ hK hG hP hS (c_X10_pass l g A L hD hF M49 616 r50 e51) (cwV 1 hts gX10_mothers_X10_pass rfl rfl rfl (by decide +kernel) ⟨Nat.le_of_ble_eq_true rfl, Nat.le_of_ble_eq_true rfl⟩) (tm_recv hK hP (hF 127 (by decide)) (ci := 9) rfl (tm_mkX10 (by decide) _)) rfl hl.1 (lv_room (Nat.le_of_ble_eq_true rfl)) dX10_mothers_132 ⟨Nat.zero_le _, Nat.zero_le _⟩) hS (fun H locs hP hS => ?_)
          refine lv_iload_n hx hb dX10_mothers_135 rfl (lv_at hl 2 rfl) ?_
          obtain ⟨r52, e53, h⟩ := tm_bd_some h
          refine tm_backI (r0 := r52) (M0 := r50.2) (fun _ q => q) (tm_callS (As := [.int r50.1, .int w1]) (rest := []) ⟨hx, hb, hml, hown, hts⟩ hK hG hP hS (c_X10_has l g A L hD hF r50.2 r50.1 w1 r52 e53) (va_cwS 2 hts gX10_mothers_X10_has rfl rfl rfl (by decide +kernel) ⟨Nat.le_of_ble_eq_true rfl, Nat.le_of_ble_eq_true rfl⟩) rfl hl.1 (lv_room (Nat.le_of_ble_eq_true rfl)) dX10_mothers_136 ⟨Nat.zero_le _, Nat.zero_le _⟩) hS (fun H locs hP hS => ?_)
          refine lv_if_ne (tgt := 147) hx hb dX10_mothers_139 (by decide) (fun c54 => ?_) (fun c54 => ?_)
          · rw [if_neg c54] at h
            refine lv_iconst (v := 1) hx hb dX10_mothers_147 (by decide) ?_
            refine lv_goto (tgt := 152) hx hb dX10_mothers_148 (by decide) ?_
            refine lv_istore (lv' := [(9, .int 1), (8, .int x43), (0, .ref (g.2.2 + 127)), (1, .int w1), (2, .int w2), (3, .int w3), (4, .int w4), (5, .int w5), (6, .int w6), (7, .int w7), (10, .int v10)]) hx hb dX10_mothers_152 hl (by decide) rfl (fun ls hl => ?_)
            refine lv_iinc (v := v10 + 1) (lv' := [(10, .int (v10 + 1)), (9, .int 1), (8, .int x43), (0, .ref (g.2.2 + 127)), (1, .int w1), (2, .int w2), (3, .int w3), (4, .int w4), (5, .int w5), (6, .int w6), (7, .int w7)]) hx hb dX10_mothers_154 hl (k := 10) rfl rfl (by decide) rfl (fun ls hl => ?_)
            refine lv_goto (tgt := 75) hx hb dX10_mothers_157 (by decide) ?_
            exact ih x43 1 (v10 + 1) r50.2 h _ _ _ hP hS (lv_sub hl [3, 4, 5, 6, 7, 8, 9, 10, 2, 1, 0] rfl)
          · rw [if_pos c54] at h
            refine lv_iload hx hb dX10_mothers_142 (lv_at hl 9 rfl) ?_
            refine lv_if_eq (tgt := 151) hx hb dX10_mothers_144 (by decide) (fun c55 => ?_) (fun c55 => ?_)
            · rw [if_pos c55] at h
              refine lv_iconst (v := 0) hx hb dX10_mothers_151 (by decide) ?_
              refine lv_istore (lv' := [(9, .int 0), (8, .int x43), (0, .ref (g.2.2 + 127)), (1, .int w1), (2, .int w2), (3, .int w3), (4, .int w4), (5, .int w5), (6, .int w6), (7, .int w7), (10, .int v10)]) hx hb dX10_mothers_152 hl (by decide) rfl (fun ls hl => ?_)
              refine lv_iinc (v := v10 + 1) (lv' := [(10, .int (v10 + 1)), (9, .int 0), (8, .int x43), (0, .ref (g.2.2 + 127)), (1, .int w1), (2, .int w2), (3, .int w3), (4, .int w4), (5, .int w5), (6, .int w6), (7, .int w7)]) hx hb dX10_mothers_154 hl (k := 10) rfl rfl (by decide) rfl (fun ls hl => ?_)
              refine lv_goto (tgt := 75) hx hb dX10_mothers_157 (by decide) ?_
              exact ih x43 0 (v10 + 1) r50.2 h _ _ _ hP hS (lv_sub hl [3, 4, 5, 6, 7, 8, 9, 10, 2, 1, 0] rfl)
            · rw [if_neg c55] at h
              refine lv_iconst (v := 1) hx hb dX10_mothers_147 (by decide) ?_
              refine lv_goto (tgt := 152) hx hb dX10_mothers_148 (by decide) ?_
              refine lv_istore (lv' := [(9, .int 1), (8, .int x43), (0, .ref (g.2.2 + 127)), (1, .int w1), (2, .int w2), (3, .int w3), (4, .int w4), (5, .int w5), (6, .int w6), (7, .int w7), (10, .int v10)]) hx hb dX10_mothers_152 hl (by decide) rfl (fun ls hl => ?_)
              refine lv_iinc (v := v10 + 1) (lv' := [(10, .int (v10 + 1)), (9, .int 1), (8, .int x43), (0, .ref (g.2.2 + 127)), (1, .int w1), (2, .int w2), (3, .int w3), (4, .int w4), (5, .int w5), (6, .int w6), (7, .int w7)]) hx hb dX10_mothers_154 hl (k := 10) rfl rfl (by decide) rfl (fun ls hl => ?_)
              refine lv_goto (tgt := 75) hx hb dX10_mothers_157 (by decide) ?_
              exact ih x43 1 (v10 + 1) r50.2 h _ _ _ hP hS (lv_sub hl [3, 4, 5, 6, 7, 8, 9, 10, 2, 1, 0] rfl)
        · rw [if_neg c46] at h
          refine lv_bipush (v := 10) hx hb dX10_mothers_119 (by decide) ?_
          refine lv_goto (tgt := 125) hx hb dX10_mothers_121 (by decide) ?_
          obtain ⟨M58, e57, h⟩ := tm_bd_some h
          refine tm_backV (M0 := M58) (fun _ q => q) (tm_callV (As := [.int 616, .int w1, .int 10]) (rest := []) ⟨hx, hb, hml, hown, hts⟩ hK hG hP hS (c_X10_strainMore l g A L hD hF M 616 w1 10 M58 e57) (cwV 3 hts gX10_mothers_X10_strainMore rfl rfl rfl (by decide +kernel) ⟨Nat.le_of_ble_eq_true rfl, Nat.le_of_ble_eq_true rfl⟩) (tm_recv hK hP (hF 127 (by decide)) (ci := 9) rfl (tm_mkX10 (by decide) _)) rfl hl.1 (lv_room (Nat.le_of_ble_eq_true rfl)) dX10_mothers_125 ⟨Nat.zero_le _, Nat.zero_le _⟩) hS (fun H locs hP hS => ?_)
          refine lv_aload_n hx hb dX10_mothers_128 rfl (lv_at hl 1 rfl) ?_
          refine lv_sipush (v := 616) hx hb dX10_mothers_129 (by decide) ?_
          obtain ⟨r59, e60, h⟩ := tm_bd_some h
          refine tm_backI (r0 := r59.1) (M0 := r59.2) (fun _ q => q) (tm_callV (As := [.int 616]) (rest := []) ⟨hx, hb, hml, hown, hts⟩ hK hG hP hS (c_X10_pass l g A L hD hF M58 616 r59 e60) (cwV 1 hts gX10_mothers_X10_pass rfl rfl rfl (by decide +kernel) ⟨Nat.le_of_ble_eq_true rfl, Nat.le_of_ble_eq_true rfl⟩) (tm_recv hK hP (hF 127 (by decide)) (ci := 9) rfl (tm_mkX10 (by decide) _)) rfl hl.1 (lv_room (Nat.le_of_ble_eq_true rfl)) dX10_mothers_132 ⟨Nat.zero_le _, Nat.zero_le _⟩) hS (fun H locs hP hS => ?_)
          refine lv_iload_n hx hb dX10_mothers_135 rfl (lv_at hl 2 rfl) ?_
          obtain ⟨r61, e62, h⟩ := tm_bd_some h
          refine tm_backI (r0 := r61) (M0 := r59.2) (fun _ q => q) (tm_callS (As := [.int r59.1, .int w1]) (rest := []) ⟨hx, hb, hml, hown, hts⟩ hK hG hP hS (c_X10_has l g A L hD hF r59.2 r59.1 w1 r61 e62) (va_cwS 2 hts gX10_mothers_X10_has rfl rfl rfl (by decide +kernel) ⟨Nat.le_of_ble_eq_true rfl, Nat.le_of_ble_eq_true rfl⟩) rfl hl.1 (lv_room (Nat.le_of_ble_eq_true rfl)) dX10_mothers_136 ⟨Nat.zero_le _, Nat.zero_le _⟩) hS (fun H locs hP hS => ?_)
          refine lv_if_ne (tgt := 147) hx hb dX10_mothers_139 (by decide) (fun c63 => ?_) (fun c63 => ?_)
          · rw [if_neg c63] at h
            refine lv_iconst (v := 1) hx hb dX10_mothers_147 (by decide) ?_
            refine lv_goto (tgt := 152) hx hb dX10_mothers_148 (by decide) ?_
            refine lv_istore (lv' := [(9, .int 1), (8, .int x43), (0, .ref (g.2.2 + 127)), (1, .int w1), (2, .int w2), (3, .int w3), (4, .int w4), (5, .int w5), (6, .int w6), (7, .int w7), (10, .int v10)]) hx hb dX10_mothers_152 hl (by decide) rfl (fun ls hl => ?_)
            refine lv_iinc (v := v10 + 1) (lv' := [(10, .int (v10 + 1)), (9, .int 1), (8, .int x43), (0, .ref (g.2.2 + 127)), (1, .int w1), (2, .int w2), (3, .int w3), (4, .int w4), (5, .int w5), (6, .int w6), (7, .int w7)]) hx hb dX10_mothers_154 hl (k := 10) rfl rfl (by decide) rfl (fun ls hl => ?_)
            refine lv_goto (tgt := 75) hx hb dX10_mothers_157 (by decide) ?_
            exact ih x43 1 (v10 + 1) r59.2 h _ _ _ hP hS (lv_sub hl [3, 4, 5, 6, 7, 8, 9, 10, 2, 1, 0] rfl)
          · rw [if_pos c63] at h
            refine lv_iload hx hb dX10_mothers_142 (lv_at hl 9 rfl) ?_
            refine lv_if_eq (tgt := 151) hx hb dX10_mothers_144 (by decide) (fun c64 => ?_) (fun c64 => ?_)
            · rw [if_pos c64] at h
              refine lv_iconst (v := 0) hx hb dX10_mothers_151 (by decide) ?_
              refine lv_istore (lv' := [(9, .int 0), (8, .int x43), (0, .ref (g.2.2 + 127)), (1, .int w1), (2, .int w2), (3, .int w3), (4, .int w4), (5, .int w5), (6, .int w6), (7, .int w7), (10, .int v10)]) hx hb dX10_mothers_152 hl (by decide) rfl (fun ls hl => ?_)
              refine lv_iinc (v := v10 + 1) (lv' := [(10, .int (v10 + 1)), (9, .int 0), (8, .int x43), (0, .ref (g.2.2 + 127)), (1, .int w1), (2, .int w2), (3, .int w3), (4, .int w4), (5, .int w5), (6, .int w6), (7, .int w7)]) hx hb dX10_mothers_154 hl (k := 10) rfl rfl (by decide) rfl (fun ls hl => ?_)
              refine lv_goto (tgt := 75) hx hb dX10_mothers_157 (by decide) ?_
              exact ih x43 0 (v10 + 1) r59.2 h _ _ _ hP hS (lv_sub hl [3, 4, 5, 6, 7, 8, 9, 10, 2, 1, 0] rfl)
            · rw [if_neg c64] at h
              refine lv_iconst (v := 1) hx hb dX10_mothers_147 (by decide) ?_
              refine lv_goto (tgt := 152) hx hb dX10_mothers_148 (by decide) ?_
              refine lv_istore (lv' := [(9, .int 1), (8, .int x43), (0, .ref (g.2.2 + 127)), (1, .int w1), (2, .int w2), (3, .int w3), (4, .int w4), (5, .int w5), (6, .int w6), (7, .int w7), (10, .int v10)]) hx hb dX10_mothers_152 hl (by decide) rfl (fun ls hl => ?_)
              refine lv_iinc (v := v10 + 1) (lv' := [(10, .int (v10 + 1)), (9, .int 1), (8, .int x43), (0, .ref (g.2.2 + 127)), (1, .int w1), (2, .int w2), (3, .int w3), (4, .int w4), (5, .int w5), (6, .int w6), (7, .int w7)]) hx hb dX10_mothers_154 hl (k := 10) rfl rfl (by decide) rfl (fun ls hl => ?_)
              refine lv_goto (tgt := 75) hx hb dX10_mothers_157 (by decide) ?_
              exact ih x43 1 (v10 + 1) r59.2 h _ _ _ hP hS (lv_sub hl [3, 4, 5, 6, 7, 8, 9, 10, 2, 1, 0] rfl)
set_option maxHeartbeats 4000000 in
set_option maxRecDepth 100000 in
theorem w_X10_mothers_L53 {p : Program} {l : Launch} {e : Env} {s : State} {m : MethodId} {args : Array Value} {below : List Frame} {meth : Method} {c : Code} {g : tm_G} {A : Nat → Prop} {L : List Nat} (C0 : tm_C p m c cX10_mothers 11 s args wsX10_mothers RX10 meth (some .int) g A L tm_all) (w1 : Int32) (w2 : Int32) (w3 : Int32) (w4 : Int32) (k : Int32 → Int32 → Int32 → tm_M → Option (Int32 × tm_M)) (R0 : Int32 × tm_M) (hk : ∀ (v5 : Int32) (v6 : Int32) (v7 : Int32) (M : tm_M), k v5 v6 v7 M = some R0 → ∀ (H : Heap) (locs : List Loc) (ls : Array Slot), va_P g.1 vwCl (tm_ws g L M) H → va_S A s.heap H locs → lv_has ls 11 [(0, .ref (g.2.2 + 127)), (1, .int w1), (2, .int w2), (3, .int w3), (4, .int w4), (5, .int v5), (6, .int v6), (7, .int v7)] → W p l e { frames := 5, cells := 0, slots := 0, locals := 115 } s m args below meth c H locs 0 0 (MQ below (tm_QI g A L R0) args s 0 0 A) (F0 m 189 ls [])) : ∀ (n : Nat) (v5 : Int32) (v6 : Int32) (v7 : Int32) (M : tm_M), f_X10_mothers_L53 k w1 w2 w3 w4 n v5 v6 v7 M = some R0 → ∀ (H : Heap) (locs : List Loc) (ls : Array Slot), va_P g.1 vwCl (tm_ws g L M) H → va_S A s.heap H locs → lv_has ls 11 [(0, .ref (g.2.2 + 127)), (1, .int w1), (2, .int w2), (3, .int w3), (4, .int w4), (5, .int v5), (6, .int v6), (7, .int v7)] → W p l e { frames := 5, cells := 0, slots := 0, locals := 115 } s m args below meth c H locs 0 0 (MQ below (tm_QI g A L R0) args s 0 0 A) (F0 m 53 ls []) := by
  obtain ⟨⟨hx, hb, hml, hown, hts⟩, hr, hlk, hK, hD, hG, hF⟩ := id C0
  intro n
  induction n with
  | zero =>
    intro v5 v6 v7 M h
    simp [f_X10_mothers_L53] at h
  | succ n ih =>
    intro v5 v6 v7 M h H locs ls hP hS hl
    rw [f_X10_mothers_L53] at h
    refine lv_iload hx hb dX10_mothers_53 (lv_at hl 7 rfl) ?_
    refine lv_iconst (v := 1) hx hb dX10_mothers_55 (by decide) ?_
    refine lv_iload_n hx hb dX10_mothers_56 rfl (lv_at hl 2 rfl) ?_
    refine lv_ishl hx hb dX10_mothers_57 ?_
    refine lv_icmp_ge (tgt := 189) hx hb dX10_mothers_58 (by decide) (fun c13 => ?_) (fun c13 => ?_)
    · rw [if_pos c13] at h
      exact hk v5 v6 v7 M h _ _ _ hP hS (lv_sub hl [0, 1, 2, 3, 4, 5, 6, 7] rfl)
    · rw [if_neg c13] at h
      refine lv_iconst (v := 1) hx hb dX10_mothers_61 (by decide) ?_
      refine lv_istore (lv' := [(8, .int 1), (0, .ref (g.2.2 + 127)), (1, .int w1), (2, .int w2), (3, .int w3), (4, .int w4), (5, .int v5), (6, .int v6), (7, .int v7)]) hx hb dX10_mothers_62 hl (by decide) rfl (fun ls hl => ?_)
      refine lv_iconst (v := 0) hx hb dX10_mothers_64 (by decide) ?_
      refine lv_istore (lv' := [(9, .int 0), (8, .int 1), (0, .ref (g.2.2 + 127)), (1, .int w1), (2, .int w2), (3, .int w3), (4, .int w4), (5, .int v5), (6, .int v6), (7, .int v7)]) hx hb dX10_mothers_65 hl (by decide) rfl (fun ls hl => ?_)
      refine lv_aload_n hx hb dX10_mothers_67 rfl (lv_at hl 2 rfl) ?_
      refine lv_iconst (v := 0) hx hb dX10_mothers_68 (by decide) ?_
      obtain ⟨M16, e15, h⟩ := tm_bd_some h
      refine tm_backV (M0 := M16) (fun _ q => q) (tm_callV (As := [.int 0]) (rest := []) ⟨hx, hb, hml, hown, hts⟩ hK hG hP hS (c_X10_layTried l g A L hD hF M 0 M16 e15) (cwV 1 hts gX10_mothers_X10_layTried rfl rfl rfl (by decide +kernel) ⟨Nat.le_of_ble_eq_true rfl, Nat.le_of_ble_eq_true rfl⟩) (tm_recv hK hP (hF 127 (by decide)) (ci := 9) rfl (tm_mkX10 (by decide) _)) rfl hl.1 (lv_room (Nat.le_of_ble_eq_true rfl)) dX10_mothers_69 ⟨Nat.zero_le _, Nat.zero_le _⟩) hS (fun H locs hP hS => ?_)
      refine lv_iconst (v := 0) hx hb dX10_mothers_72 (by decide) ?_
      refine lv_istore (lv' := [(10, .int 0), (9, .int 0), (8, .int 1), (0, .ref (g.2.2 + 127)), (1, .int w1), (2, .int w2), (3, .int w3), (4, .int w4), (5, .int v5), (6, .int v6), (7, .int v7)]) hx hb dX10_mothers_73 hl (by decide) rfl (fun ls hl => ?_)
      refine w_X10_mothers_L75 C0 w1 w2 w3 w4 v5 v6 v7 _ R0 (fun v65 v66 v67 M68 h H locs ls hP hS hl => ?_) 1000 1 0 0 M16 h _ _ _ hP hS (lv_sub hl [3, 4, 5, 6, 7, 8, 9, 10, 2, 1, 0] rfl)
      refine lv_iload hx hb dX10_mothers_160 (lv_at hl 5 rfl) ?_
      refine lv_iload hx hb dX10_mothers_162 (lv_at hl 9 rfl) ?_
      refine lv_if_eq (tgt := 172) hx hb dX10_mothers_164 (by decide) (fun c69 => ?_) (fun c69 => ?_)
      · rw [if_pos c69] at h
        refine lv_iconst (v := 0) hx hb dX10_mothers_172 (by decide) ?_
        refine lv_iadd hx hb dX10_mothers_173 ?_
        refine tm_nam h (fun x70 h => ?_)
        refine lv_istore (lv' := [(5, .int x70), (0, .ref (g.2.2 + 127)), (1, .int w1), (2, .int w2), (3, .int w3), (4, .int w4), (6, .int v6), (7, .int v7), (8, .int v65), (9, .int v66), (10, .int v67)]) hx hb dX10_mothers_174 hl (by decide) rfl (fun ls hl => ?_)
        refine lv_iload hx hb dX10_mothers_176 (lv_at hl 6 rfl) ?_
        refine lv_iload hx hb dX10_mothers_178 (lv_at hl 8 rfl) ?_
        refine lv_iadd hx hb dX10_mothers_180 ?_
        refine tm_nam h (fun x71 h => ?_)
        refine lv_istore (lv' := [(6, .int x71), (5, .int x70), (0, .ref (g.2.2 + 127)), (1, .int w1), (2, .int w2), (3, .int w3), (4, .int w4), (7, .int v7), (8, .int v65), (9, .int v66), (10, .int v67)]) hx hb dX10_mothers_181 hl (by decide) rfl (fun ls hl => ?_)
        refine lv_iinc (v := v7 + 1) (lv' := [(7, .int (v7 + 1)), (6, .int x71), (5, .int x70), (0, .ref (g.2.2 + 127)), (1, .int w1), (2, .int w2), (3, .int w3), (4, .int w4), (8, .int v65), (9, .int v66), (10, .int v67)]) hx hb dX10_mothers_183 hl (k := 7) rfl rfl (by decide) rfl (fun ls hl => ?_)
        refine lv_goto (tgt := 53) hx hb dX10_mothers_186 (by decide) ?_
        exact ih x70 x71 (v7 + 1) M68 h _ _ _ hP hS (lv_sub hl [3, 4, 5, 6, 7, 2, 1, 0] rfl)
      · rw [if_neg c69] at h
        refine lv_iload hx hb dX10_mothers_167 (lv_at hl 8 rfl) ?_
        refine lv_goto (tgt := 173) hx hb dX10_mothers_169 (by decide) ?_
        refine lv_iadd hx hb dX10_mothers_173 ?_
        refine tm_nam h (fun x72 h => ?_)
        refine lv_istore (lv' := [(5, .int x72), (0, .ref (g.2.2 + 127)), (1, .int w1), (2, .int w2), (3, .int w3), (4, .int w4), (6, .int v6), (7, .int v7), (8, .int v65), (9, .int v66), (10, .int v67)]) hx hb dX10_mothers_174 hl (by decide) rfl (fun ls hl => ?_)
        refine lv_iload hx hb dX10_mothers_176 (lv_at hl 6 rfl) ?_
        refine lv_iload hx hb dX10_mothers_178 (lv_at hl 8 rfl) ?_
        refine lv_iadd hx hb dX10_mothers_180 ?_
        refine tm_nam h (fun x73 h => ?_)
        refine lv_istore (lv' := [(6, .int x73), (5, .int x72), (0, .ref (g.2.2 + 127)), (1, .int w1), (2, .int w2), (3, .int w3), (4, .int w4), (7, .int v7), (8, .int v65), (9, .int v66), (10, .int v67)]) hx hb dX10_mothers_181 hl (by decide) rfl (fun ls hl => ?_)
        refine lv_iinc (v := v7 + 1) (lv' := [(7, .int (v7 + 1)), (6, .int x73), (5, .int x72), (0, .ref (g.2.2 + 127)), (1, .int w1), (2, .int w2), (3, .int w3), (4, .int w4), (8, .int v65), (9, .int v66), (10, .int v67)]) hx hb dX10_mothers_183 hl (k := 7) rfl rfl (by decide) rfl (fun ls hl => ?_)
        refine lv_goto (tgt := 53) hx hb dX10_mothers_186 (by decide) ?_
        exact ih x72 x73 (v7 + 1) M68 h _ _ _ hP hS (lv_sub hl [3, 4, 5, 6, 7, 2, 1, 0] rfl)
set_option maxHeartbeats 4000000 in
set_option maxRecDepth 100000 in
theorem w_X10_mothers_L197 {p : Program} {l : Launch} {e : Env} {s : State} {m : MethodId} {args : Array Value} {below : List Frame} {meth : Method} {c : Code} {g : tm_G} {A : Nat → Prop} {L : List Nat} (C0 : tm_C p m c cX10_mothers 11 s args wsX10_mothers RX10 meth (some .int) g A L tm_all) (M : tm_M) (w1 : Int32) (w2 : Int32) (w3 : Int32) (w4 : Int32) (w5 : Int32) (w6 : Int32) (k : Int32 → Int32 → Option (Int32 × tm_M)) (R0 : Int32 × tm_M) (hk : ∀ (v7 : Int32) (v8 : Int32), k v7 v8 = some R0 → ∀ (H : Heap) (locs : List Loc) (ls : Array Slot), va_P g.1 vwCl (tm_ws g L M) H → va_S A s.heap H locs → lv_has ls 11 [(0, .ref (g.2.2 + 127)), (1, .int w1), (2, .int w2), (3, .int w3), (4, .int w4), (5, .int w5), (6, .int w6), (7, .int v7), (8, .int v8)] → W p l e { frames := 5, cells := 0, slots := 0, locals := 115 } s m args below meth c H locs 0 0 (MQ below (tm_QI g A L R0) args s 0 0 A) (F0 m 220 ls [])) : ∀ (n : Nat) (v7 : Int32) (v8 : Int32), f_X10_mothers_L197 k M w1 w2 w3 w4 w5 w6 n v7 v8 = some R0 → ∀ (H : Heap) (locs : List Loc) (ls : Array Slot), va_P g.1 vwCl (tm_ws g L M) H → va_S A s.heap H locs → lv_has ls 11 [(0, .ref (g.2.2 + 127)), (1, .int w1), (2, .int w2), (3, .int w3), (4, .int w4), (5, .int w5), (6, .int w6), (7, .int v7), (8, .int v8)] → W p l e { frames := 5, cells := 0, slots := 0, locals := 115 } s m args below meth c H locs 0 0 (MQ below (tm_QI g A L R0) args s 0 0 A) (F0 m 197 ls []) := by
  obtain ⟨⟨hx, hb, hml, hown, hts⟩, hr, hlk, hK, hD, hG, hF⟩ := id C0
  intro n
  induction n with
  | zero =>
    intro v7 v8 h
    simp [f_X10_mothers_L197] at h
  | succ n ih =>
    intro v7 v8 h H locs ls hP hS hl
    rw [f_X10_mothers_L197] at h
    refine lv_iload hx hb dX10_mothers_197 (lv_at hl 8 rfl) ?_
    refine lv_if_eq (tgt := 220) hx hb dX10_mothers_199 (by decide) (fun c78 => ?_) (fun c78 => ?_)
    · rw [if_pos c78] at h
      exact hk v7 v8 h _ _ _ hP hS (lv_sub hl [0, 1, 2, 3, 4, 5, 6, 7, 8] rfl)
    · rw [if_neg c78] at h
      refine lv_iload hx hb dX10_mothers_202 (lv_at hl 7 rfl) ?_
      refine lv_iload hx hb dX10_mothers_204 (lv_at hl 8 rfl) ?_
      obtain ⟨g79, h⟩ := tm_gd_some h
      refine lv_irem hx hb dX10_mothers_206 g79 ?_
      refine tm_nam h (fun x80 h => ?_)
      refine lv_istore (lv' := [(9, .int x80), (0, .ref (g.2.2 + 127)), (1, .int w1), (2, .int w2), (3, .int w3), (4, .int w4), (5, .int w5), (6, .int w6), (7, .int v7), (8, .int v8)]) hx hb dX10_mothers_207 hl (by decide) rfl (fun ls hl => ?_)
      refine lv_iload hx hb dX10_mothers_209 (lv_at hl 9 rfl) ?_
      refine lv_istore (lv' := [(7, .int v8), (9, .int x80), (0, .ref (g.2.2 + 127)), (1, .int w1), (2, .int w2), (3, .int w3), (4, .int w4), (5, .int w5), (6, .int w6), (8, .int v8)]) hx hb dX10_mothers_211 hl (by decide) rfl (fun ls hl => ?_)
      refine lv_iload hx hb dX10_mothers_213 (lv_at hl 1 rfl) ?_
      refine lv_istore (lv' := [(8, .int x80), (7, .int v8), (9, .int x80), (0, .ref (g.2.2 + 127)), (1, .int w1), (2, .int w2), (3, .int w3), (4, .int w4), (5, .int w5), (6, .int w6)]) hx hb dX10_mothers_215 hl (by decide) rfl (fun ls hl => ?_)
      refine lv_goto (tgt := 197) hx hb dX10_mothers_217 (by decide) ?_
      exact ih v8 x80 h _ _ _ hP hS (lv_sub hl [3, 4, 5, 6, 7, 8, 9, 1, 0] rfl)
set_option maxHeartbeats 4000000 in
set_option maxRecDepth 100000 in
theorem c_X10_mothers (l : Launch) (g : tm_G) (A : Nat → Prop) (L : List Nat) (hD : ∀ M, va_D A (tm_ws g L M)) (hF : ∀ o, tm_all o → o ∈ L) (M : tm_M) (p1 : Int32) (p2 : Int32) (p3 : Int32) (p4 : Int32) (R0 : Int32 × tm_M) (h : f_X10_mothers M p1 p2 p3 p4 = some R0) : Met l yX10_mothers wsX10_mothers { frames := 5, cells := 0, slots := 0, locals := 115 } (tm_PC g A L M [.ref (g.2.2 + 127), .int p1, .int p2, .int p3, .int p4]) (tm_QI g A L R0) 0 0 A := by
  refine tm_start (cc := cX10_mothers) (nL := 11) (ret := (some .int)) (F := tm_all) (plainFor_of_name (by decide)) rfl (Nat.le_of_ble_eq_true rfl) hD hF (fun p e s m args below meth c ls C0 hP hS hl => ?_)
  have hl : lv_has ls 11 [(0, .ref (g.2.2 + 127)), (1, .int p1), (2, .int p2), (3, .int p3), (4, .int p4)] := hl
  have C0 : tm_C p m c cX10_mothers 11 s args wsX10_mothers RX10 meth (some .int) g A L tm_all := C0
  obtain ⟨⟨hx, hb, hml, hown, hts⟩, hr, hlk, hK, hD, hG, hF⟩ := id C0
  unfold f_X10_mothers at h
  refine lv_aload_n hx hb dX10_mothers_0 rfl (lv_at hl 0 rfl) ?_
  refine lv_iload_n hx hb dX10_mothers_1 rfl (lv_at hl 1 rfl) ?_
  obtain ⟨r1, e2, h⟩ := tm_bd_some h
  refine tm_backI (r0 := r1) (M0 := M) (fun _ q => q) (tm_callV (As := [.int p1]) (rest := []) ⟨hx, hb, hml, hown, hts⟩ hK hG hP hS (c_X10_isCouple l g A L hD hF M p1 r1 e2) (cwV 1 hts gX10_mothers_X10_isCouple rfl rfl rfl (by decide +kernel) ⟨Nat.le_of_ble_eq_true rfl, Nat.le_of_ble_eq_true rfl⟩) (tm_recv hK hP (hF 127 (by decide)) (ci := 9) rfl (tm_mkX10 (by decide) _)) rfl hl.1 (lv_room (Nat.le_of_ble_eq_true rfl)) dX10_mothers_2 ⟨Nat.zero_le _, Nat.zero_le _⟩) hS (fun H locs hP hS => ?_)
  refine lv_if_ne (tgt := 11) hx hb dX10_mothers_5 (by decide) (fun c3 => ?_) (fun c3 => ?_)
  · rw [if_neg c3] at h
    refine lv_iload_n hx hb dX10_mothers_11 rfl (lv_at hl 2 rfl) ?_
    refine lv_iconst (v := 0) hx hb dX10_mothers_12 (by decide) ?_
    refine lv_bipush (v := 6) hx hb dX10_mothers_13 (by decide) ?_
    obtain ⟨r4, e5, h⟩ := tm_bd_some h
    refine tm_backI (r0 := r4) (M0 := M) (fun _ q => q) (tm_callS (As := [.int p2, .int 0, .int 6]) (rest := []) ⟨hx, hb, hml, hown, hts⟩ hK hG hP hS (c_X10_in l g A L hD hF M p2 0 6 r4 e5) (va_cwS 3 hts gX10_mothers_X10_in rfl rfl rfl (by decide +kernel) ⟨Nat.le_of_ble_eq_true rfl, Nat.le_of_ble_eq_true rfl⟩) rfl hl.1 (lv_room (Nat.le_of_ble_eq_true rfl)) dX10_mothers_15 ⟨Nat.zero_le _, Nat.zero_le _⟩) hS (fun H locs hP hS => ?_)
    refine lv_if_eq (tgt := 41) hx hb dX10_mothers_18 (by decide) (fun c6 => ?_) (fun c6 => ?_)
    · rw [if_pos c6] at h
      refine lv_bipush (v := (-3)) hx hb dX10_mothers_41 (by decide) ?_
      exact tm_iret C0 (Option.some.inj h) hP hS dX10_mothers_43
    · rw [if_neg c6] at h
      refine lv_iload_n hx hb dX10_mothers_21 rfl (lv_at hl 3 rfl) ?_
      refine lv_iconst (v := 0) hx hb dX10_mothers_22 (by decide) ?_
      refine lv_bipush (v := 10) hx hb dX10_mothers_23 (by decide) ?_
      obtain ⟨r7, e8, h⟩ := tm_bd_some h
      refine tm_backI (r0 := r7) (M0 := M) (fun _ q => q) (tm_callS (As := [.int p3, .int 0, .int 10]) (rest := []) ⟨hx, hb, hml, hown, hts⟩ hK hG hP hS (c_X10_in l g A L hD hF M p3 0 10 r7 e8) (va_cwS 3 hts gX10_mothers_X10_in rfl rfl rfl (by decide +kernel) ⟨Nat.le_of_ble_eq_true rfl, Nat.le_of_ble_eq_true rfl⟩) rfl hl.1 (lv_room (Nat.le_of_ble_eq_true rfl)) dX10_mothers_25 ⟨Nat.zero_le _, Nat.zero_le _⟩) hS (fun H locs hP hS => ?_)
      refine lv_if_eq (tgt := 41) hx hb dX10_mothers_28 (by decide) (fun c9 => ?_) (fun c9 => ?_)
      · rw [if_pos c9] at h
        refine lv_bipush (v := (-3)) hx hb dX10_mothers_41 (by decide) ?_
        exact tm_iret C0 (Option.some.inj h) hP hS dX10_mothers_43
      · rw [if_neg c9] at h
        refine lv_iload hx hb dX10_mothers_31 (lv_at hl 4 rfl) ?_
        refine lv_iconst (v := 0) hx hb dX10_mothers_33 (by decide) ?_
        refine lv_iconst (v := 1) hx hb dX10_mothers_34 (by decide) ?_
        obtain ⟨r10, e11, h⟩ := tm_bd_some h
        refine tm_backI (r0 := r10) (M0 := M) (fun _ q => q) (tm_callS (As := [.int p4, .int 0, .int 1]) (rest := []) ⟨hx, hb, hml, hown, hts⟩ hK hG hP hS (c_X10_in l g A L hD hF M p4 0 1 r10 e11) (va_cwS 3 hts gX10_mothers_X10_in rfl rfl rfl (by decide +kernel) ⟨Nat.le_of_ble_eq_true rfl, Nat.le_of_ble_eq_true rfl⟩) rfl hl.1 (lv_room (Nat.le_of_ble_eq_true rfl)) dX10_mothers_35 ⟨Nat.zero_le _, Nat.zero_le _⟩) hS (fun H locs hP hS => ?_)
        refine lv_if_ne (tgt := 44) hx hb dX10_mothers_38 (by decide) (fun c12 => ?_) (fun c12 => ?_)
        · rw [if_neg c12] at h
          refine lv_iconst (v := 0) hx hb dX10_mothers_44 (by decide) ?_
          refine lv_istore (lv' := [(5, .int 0), (0, .ref (g.2.2 + 127)), (1, .int p1), (2, .int p2), (3, .int p3), (4, .int p4)]) hx hb dX10_mothers_45 hl (by decide) rfl (fun ls hl => ?_)
          refine lv_iconst (v := 0) hx hb dX10_mothers_47 (by decide) ?_
          refine lv_istore (lv' := [(6, .int 0), (5, .int 0), (0, .ref (g.2.2 + 127)), (1, .int p1), (2, .int p2), (3, .int p3), (4, .int p4)]) hx hb dX10_mothers_48 hl (by decide) rfl (fun ls hl => ?_)
          refine lv_iconst (v := 0) hx hb dX10_mothers_50 (by decide) ?_
          refine lv_istore (lv' := [(7, .int 0), (6, .int 0), (5, .int 0), (0, .ref (g.2.2 + 127)), (1, .int p1), (2, .int p2), (3, .int p3), (4, .int p4)]) hx hb dX10_mothers_51 hl (by decide) rfl (fun ls hl => ?_)
          refine w_X10_mothers_L53 C0 p1 p2 p3 p4 _ R0 (fun v74 v75 v76 M77 h H locs ls hP hS hl => ?_) 1000 0 0 0 M h _ _ _ hP hS (lv_sub hl [3, 4, 5, 6, 7, 2, 1, 0] rfl)
          refine lv_iload hx hb dX10_mothers_189 (lv_at hl 5 rfl) ?_
          refine lv_istore (lv' := [(7, .int v74), (0, .ref (g.2.2 + 127)), (1, .int p1), (2, .int p2), (3, .int p3), (4, .int p4), (5, .int v74), (6, .int v75)]) hx hb dX10_mothers_191 hl (by decide) rfl (fun ls hl => ?_)
          refine lv_iload hx hb dX10_mothers_193 (lv_at hl 7 rfl) ?_
          refine lv_istore (lv' := [(8, .int v75), (7, .int v74), (0, .ref (g.2.2 + 127)), (1, .int p1), (2, .int p2), (3, .int p3), (4, .int p4), (5, .int v74), (6, .int v75)]) hx hb dX10_mothers_195 hl (by decide) rfl (fun ls hl => ?_)
          refine w_X10_mothers_L197 C0 M77 p1 p2 p3 p4 v74 v75 _ R0 (fun v81 v82 h H locs ls hP hS hl => ?_) 1000 v74 v75 h _ _ _ hP hS (lv_sub hl [2, 3, 4, 5, 6, 7, 8, 1, 0] rfl)
          refine lv_iload hx hb dX10_mothers_220 (lv_at hl 4 rfl) ?_
          refine lv_if_ne (tgt := 233) hx hb dX10_mothers_222 (by decide) (fun c83 => ?_) (fun c83 => ?_)
          · rw [if_neg c83] at h
            refine lv_iload hx hb dX10_mothers_233 (lv_at hl 6 rfl) ?_
            refine lv_iload hx hb dX10_mothers_235 (lv_at hl 7 rfl) ?_
            obtain ⟨g84, h⟩ := tm_gd_some h
            refine lv_idiv hx hb dX10_mothers_237 g84 ?_
            exact tm_iret C0 (Option.some.inj h) hP hS dX10_mothers_238
          · rw [if_pos c83] at h
            refine lv_iload hx hb dX10_mothers_225 (lv_at hl 5 rfl) ?_
            refine lv_iload hx hb dX10_mothers_227 (lv_at hl 7 rfl) ?_
            obtain ⟨g85, h⟩ := tm_gd_some h
            refine lv_idiv hx hb dX10_mothers_229 g85 ?_
            refine lv_goto (tgt := 238) hx hb dX10_mothers_230 (by decide) ?_
            exact tm_iret C0 (Option.some.inj h) hP hS dX10_mothers_238
        · rw [if_pos c12] at h
          refine lv_bipush (v := (-3)) hx hb dX10_mothers_41 (by decide) ?_
          exact tm_iret C0 (Option.some.inj h) hP hS dX10_mothers_43
  · rw [if_pos c3] at h
    refine lv_bipush (v := (-2)) hx hb dX10_mothers_8 (by decide) ?_
    exact tm_iret C0 (Option.some.inj h) hP hS dX10_mothers_10
/-! X10_count -/
theorem nX10_count_X10 : ∀ w ∈ wsX100, w ∈ wsX10_count := by decide +kernel
theorem kX10_count_0 : Cond.fieldLink RX10 59 "QuarrelDeskModel" "couples" "I" ∈ wsX10_count := by decide +kernel
theorem kX10_count_1 : Cond.fieldLink RX10 22 "QuarrelDeskModel" "row" "[I" ∈ wsX10_count := by decide +kernel
theorem kX10_count_2 : Cond.constant RX10 175 (999999) ∈ wsX10_count := by decide +kernel
theorem kX10_count_3 : Cond.fieldLink RX10 66 "QuarrelDeskModel" "seenMany" "I" ∈ wsX10_count := by decide +kernel
theorem kX10_count_4 : Cond.fieldLink RX10 63 "QuarrelDeskModel" "undos" "I" ∈ wsX10_count := by decide +kernel
theorem kX10_count_5 : Cond.fieldLink RX10 73 "QuarrelDeskModel" "length" "I" ∈ wsX10_count := by decide +kernel
def f_X10_count (M : tm_M) (p1 : Int32) : Option Int32 :=
  if p1 = 0 then
    some (M 127 7)
  else
    if p1 = 1 then
      (tm_rd M 132 672 0).bind fun x3 =>
      some x3
    else
      if p1 = 2 then
        (f_X10_balanceOf M 0).bind fun r6 =>
        some (r6 + 999999)
      else
        if p1 = 3 then
          (f_X10_sumOf M 0 20).bind fun r9 =>
          some r9
        else
          if p1 = 4 then
            (f_X10_sumOf M 0 26).bind fun r12 =>
            some r12
          else
            if p1 = 5 then
              (tm_rd M 132 672 19).bind fun x15 =>
              some x15
            else
              if p1 = 6 then
                some (M 127 15)
              else
                if p1 = 7 then
                  some (M 127 5)
                else
                  if p1 = 8 then
                    some (M 127 13)
                  else
                    some (-3)
set_option maxHeartbeats 4000000 in
set_option maxRecDepth 100000 in
theorem c_X10_count (l : Launch) (g : tm_G) (A : Nat → Prop) (L : List Nat) (hD : ∀ M, va_D A (tm_ws g L M)) (hF : ∀ o, tm_all o → o ∈ L) (M : tm_M) (p1 : Int32) (r0 : Int32) (h : f_X10_count M p1 = some r0) : Met l yX10_count wsX10_count { frames := 2, cells := 0, slots := 0, locals := 45 } (tm_PC g A L M [.ref (g.2.2 + 127), .int p1]) (tm_QI g A L (r0, M)) 0 0 A := by
  refine tm_start (cc := cX10_count) (nL := 2) (ret := (some .int)) (F := tm_all) (plainFor_of_name (by decide)) rfl (Nat.le_of_ble_eq_true rfl) hD hF (fun p e s m args below meth c ls C0 hP hS hl => ?_)
  have hl : lv_has ls 2 [(0, .ref (g.2.2 + 127)), (1, .int p1)] := hl
  have C0 : tm_C p m c cX10_count 2 s args wsX10_count RX10 meth (some .int) g A L tm_all := C0
  obtain ⟨⟨hx, hb, hml, hown, hts⟩, hr, hlk, hK, hD, hG, hF⟩ := id C0
  unfold f_X10_count at h
  refine lv_iload_n hx hb dX10_count_0 rfl (lv_at hl 1 rfl) ?_
  by_cases c1 : p1 = 0
  · rw [if_pos c1] at h
    refine lv_tableIn (tgt := 52) (off := 51) hx hb dX10_count_1 (by rw [c1]; decide) (by rw [c1]; decide) (by rw [c1]; decide) (by decide) ?_
    refine lv_aload_n hx hb dX10_count_52 rfl (lv_at hl 0 rfl) ?_
    refine tm_get (C := RX10) (T := TX10) (N := 23) (v := .int (M 127 7)) hx hb hts nX10_count_X10 hown hK hP (hF 127 (by decide)) (tm_mkX10 (by decide) _) rfl 7 (by decide) (hts _ kX10_count_0) rfl dX10_count_53 ?_
    exact tm_iret C0 (by rw [Option.some.inj h]) hP hS dX10_count_56
  · rw [if_neg c1] at h
    by_cases c2 : p1 = 1
    · rw [if_pos c2] at h
      refine lv_tableIn (tgt := 57) (off := 56) hx hb dX10_count_1 (by rw [c2]; decide) (by rw [c2]; decide) (by rw [c2]; decide) (by decide) ?_
      refine lv_aload_n hx hb dX10_count_57 rfl (lv_at hl 0 rfl) ?_
      refine tm_get (C := RX10) (T := TX10) (N := 23) (v := .ref (g.2.2 + 132)) hx hb hts nX10_count_X10 hown hK hP (hF 127 (by decide)) (tm_mkX10 (by decide) _) rfl 4 (by decide) (hts _ kX10_count_1) rfl dX10_count_58 ?_
      refine lv_iconst (v := 0) hx hb dX10_count_61 (by decide) ?_
      obtain ⟨x3, e4, h⟩ := tm_bd_some h
      refine tm_iald hx hb hK hP (hF 132 (by decide)) (tm_mkI (n := 672) (by decide) (by decide)) e4 dX10_count_62 ?_
      exact tm_iret C0 (by rw [Option.some.inj h]) hP hS dX10_count_63
    · rw [if_neg c2] at h
      by_cases c5 : p1 = 2
      · rw [if_pos c5] at h
        refine lv_tableIn (tgt := 64) (off := 63) hx hb dX10_count_1 (by rw [c5]; decide) (by rw [c5]; decide) (by rw [c5]; decide) (by decide) ?_
        refine lv_aload_n hx hb dX10_count_64 rfl (lv_at hl 0 rfl) ?_
        refine lv_iconst (v := 0) hx hb dX10_count_65 (by decide) ?_
        obtain ⟨r6, e7, h⟩ := tm_bd_some h
        refine tm_backI (r0 := r6) (M0 := M) (fun _ q => q) (tm_callV (As := [.int 0]) (rest := []) ⟨hx, hb, hml, hown, hts⟩ hK hG hP hS (c_X10_balanceOf l g A L hD hF M 0 r6 e7) (cwV 1 hts gX10_count_X10_balanceOf rfl rfl rfl (by decide +kernel) ⟨Nat.le_of_ble_eq_true rfl, Nat.le_of_ble_eq_true rfl⟩) (tm_recv hK hP (hF 127 (by decide)) (ci := 9) rfl (tm_mkX10 (by decide) _)) rfl hl.1 (lv_room (Nat.le_of_ble_eq_true rfl)) dX10_count_66 ⟨Nat.zero_le _, Nat.zero_le _⟩) hS (fun H locs hP hS => ?_)
        refine lv_ldc (v := 999999) hx hb hown (hts _ kX10_count_2) dX10_count_69 ?_
        refine lv_iadd hx hb dX10_count_71 ?_
        exact tm_iret C0 (by rw [Option.some.inj h]) hP hS dX10_count_72
      · rw [if_neg c5] at h
        by_cases c8 : p1 = 3
        · rw [if_pos c8] at h
          refine lv_tableIn (tgt := 73) (off := 72) hx hb dX10_count_1 (by rw [c8]; decide) (by rw [c8]; decide) (by rw [c8]; decide) (by decide) ?_
          refine lv_aload_n hx hb dX10_count_73 rfl (lv_at hl 0 rfl) ?_
          refine lv_iconst (v := 0) hx hb dX10_count_74 (by decide) ?_
          refine lv_bipush (v := 20) hx hb dX10_count_75 (by decide) ?_
          obtain ⟨r9, e10, h⟩ := tm_bd_some h
          refine tm_backI (r0 := r9) (M0 := M) (fun _ q => q) (tm_callV (As := [.int 0, .int 20]) (rest := []) ⟨hx, hb, hml, hown, hts⟩ hK hG hP hS (c_X10_sumOf l g A L hD hF M 0 20 r9 e10) (cwV 2 hts gX10_count_X10_sumOf rfl rfl rfl (by decide +kernel) ⟨Nat.le_of_ble_eq_true rfl, Nat.le_of_ble_eq_true rfl⟩) (tm_recv hK hP (hF 127 (by decide)) (ci := 9) rfl (tm_mkX10 (by decide) _)) rfl hl.1 (lv_room (Nat.le_of_ble_eq_true rfl)) dX10_count_77 ⟨Nat.zero_le _, Nat.zero_le _⟩) hS (fun H locs hP hS => ?_)
          exact tm_iret C0 (by rw [Option.some.inj h]) hP hS dX10_count_80
        · rw [if_neg c8] at h
          by_cases c11 : p1 = 4
          · rw [if_pos c11] at h
            refine lv_tableIn (tgt := 81) (off := 80) hx hb dX10_count_1 (by rw [c11]; decide) (by rw [c11]; decide) (by rw [c11]; decide) (by decide) ?_
            refine lv_aload_n hx hb dX10_count_81 rfl (lv_at hl 0 rfl) ?_
            refine lv_iconst (v := 0) hx hb dX10_count_82 (by decide) ?_
            refine lv_bipush (v := 26) hx hb dX10_count_83 (by decide) ?_
            obtain ⟨r12, e13, h⟩ := tm_bd_some h
            refine tm_backI (r0 := r12) (M0 := M) (fun _ q => q) (tm_callV (As := [.int 0, .int 26]) (rest := []) ⟨hx, hb, hml, hown, hts⟩ hK hG hP hS (c_X10_sumOf l g A L hD hF M 0 26 r12 e13) (cwV 2 hts gX10_count_X10_sumOf rfl rfl rfl (by decide +kernel) ⟨Nat.le_of_ble_eq_true rfl, Nat.le_of_ble_eq_true rfl⟩) (tm_recv hK hP (hF 127 (by decide)) (ci := 9) rfl (tm_mkX10 (by decide) _)) rfl hl.1 (lv_room (Nat.le_of_ble_eq_true rfl)) dX10_count_85 ⟨Nat.zero_le _, Nat.zero_le _⟩) hS (fun H locs hP hS => ?_)
            exact tm_iret C0 (by rw [Option.some.inj h]) hP hS dX10_count_88
          · rw [if_neg c11] at h
            by_cases c14 : p1 = 5
            · rw [if_pos c14] at h
              refine lv_tableIn (tgt := 89) (off := 88) hx hb dX10_count_1 (by rw [c14]; decide) (by rw [c14]; decide) (by rw [c14]; decide) (by decide) ?_
              refine lv_aload_n hx hb dX10_count_89 rfl (lv_at hl 0 rfl) ?_
              refine tm_get (C := RX10) (T := TX10) (N := 23) (v := .ref (g.2.2 + 132)) hx hb hts nX10_count_X10 hown hK hP (hF 127 (by decide)) (tm_mkX10 (by decide) _) rfl 4 (by decide) (hts _ kX10_count_1) rfl dX10_count_90 ?_
              refine lv_bipush (v := 19) hx hb dX10_count_93 (by decide) ?_
              obtain ⟨x15, e16, h⟩ := tm_bd_some h
              refine tm_iald hx hb hK hP (hF 132 (by decide)) (tm_mkI (n := 672) (by decide) (by decide)) e16 dX10_count_95 ?_
              exact tm_iret C0 (by rw [Option.some.inj h]) hP hS dX10_count_96
            · rw [if_neg c14] at h
              by_cases c17 : p1 = 6
              · rw [if_pos c17] at h
                refine lv_tableIn (tgt := 97) (off := 96) hx hb dX10_count_1 (by rw [c17]; decide) (by rw [c17]; decide) (by rw [c17]; decide) (by decide) ?_
                refine lv_aload_n hx hb dX10_count_97 rfl (lv_at hl 0 rfl) ?_
                refine tm_get (C := RX10) (T := TX10) (N := 23) (v := .int (M 127 15)) hx hb hts nX10_count_X10 hown hK hP (hF 127 (by decide)) (tm_mkX10 (by decide) _) rfl 15 (by decide) (hts _ kX10_count_3) rfl dX10_count_98 ?_
                exact tm_iret C0 (by rw [Option.some.inj h]) hP hS dX10_count_101
              · rw [if_neg c17] at h
                by_cases c18 : p1 = 7
                · rw [if_pos c18] at h
                  refine lv_tableIn (tgt := 102) (off := 101) hx hb dX10_count_1 (by rw [c18]; decide) (by rw [c18]; decide) (by rw [c18]; decide) (by decide) ?_
                  refine lv_aload_n hx hb dX10_count_102 rfl (lv_at hl 0 rfl) ?_
                  refine tm_get (C := RX10) (T := TX10) (N := 23) (v := .int (M 127 5)) hx hb hts nX10_count_X10 hown hK hP (hF 127 (by decide)) (tm_mkX10 (by decide) _) rfl 5 (by decide) (hts _ kX10_count_4) rfl dX10_count_103 ?_
                  exact tm_iret C0 (by rw [Option.some.inj h]) hP hS dX10_count_106
                · rw [if_neg c18] at h
                  by_cases c19 : p1 = 8
                  · rw [if_pos c19] at h
                    refine lv_tableIn (tgt := 107) (off := 106) hx hb dX10_count_1 (by rw [c19]; decide) (by rw [c19]; decide) (by rw [c19]; decide) (by decide) ?_
                    refine lv_aload_n hx hb dX10_count_107 rfl (lv_at hl 0 rfl) ?_
                    refine tm_get (C := RX10) (T := TX10) (N := 23) (v := .int (M 127 13)) hx hb hts nX10_count_X10 hown hK hP (hF 127 (by decide)) (tm_mkX10 (by decide) _) rfl 13 (by decide) (hts _ kX10_count_5) rfl dX10_count_108 ?_
                    exact tm_iret C0 (by rw [Option.some.inj h]) hP hS dX10_count_111
                  · rw [if_neg c19] at h
                    have c1t := lv_neT (a := 0) c1 (by decide)
                    have c2t := lv_neT (a := 1) c2 (by decide)
                    have c5t := lv_neT (a := 2) c5 (by decide)
                    have c8t := lv_neT (a := 3) c8 (by decide)
                    have c11t := lv_neT (a := 4) c11 (by decide)
                    have c14t := lv_neT (a := 5) c14 (by decide)
                    have c17t := lv_neT (a := 6) c17 (by decide)
                    have c18t := lv_neT (a := 7) c18 (by decide)
                    have c19t := lv_neT (a := 8) c19 (by decide)
                    refine lv_tableOut (tgt := 112) hx hb dX10_count_1 (by omega) (by decide) ?_
                    refine lv_bipush (v := (-3)) hx hb dX10_count_112 (by decide) ?_
                    exact tm_iret C0 (by rw [Option.some.inj h]) hP hS dX10_count_114
