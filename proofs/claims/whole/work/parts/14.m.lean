/-! X10_pass -/
theorem nX10_pass_X10 : ∀ w ∈ wsX100, w ∈ wsX10_pass := by decide +kernel
theorem kX10_pass_0 : Cond.fieldLink RX10 59 "QuarrelDeskModel" "couples" "I" ∈ wsX10_pass := by decide +kernel
theorem kX10_pass_1 : Cond.fieldLink RX10 22 "QuarrelDeskModel" "row" "[I" ∈ wsX10_pass := by decide +kernel
def f_X10_pass_L4 (k : Int32 → Int32 → tm_M → Option (Int32 × tm_M)) (w1 : Int32) : Nat → Int32 → Int32 → tm_M → Option (Int32 × tm_M)
  | 0, _, _, _ => none
  | n + 1, v2, v3, M =>
    if (M 127 7) ≤ v3 then
      k v2 v3 M
    else
      (f_X10_gainOf M w1 v3).bind fun r2 =>
      (f_X10_strainMore M w1 v3 r2).bind fun M6 =>
      (tm_rd M6 132 672 ((w1 + 7) + v3)).bind fun x7 =>
      (f_X10_termOf M6 w1 4).bind fun r9 =>
      if x7 < r9 then
        (f_X10_termOf M6 w1 3).bind fun r12 =>
        if x7 < r12 then
          (tm_wr M6 132 672 ((w1 + 13) + v3) 0).bind fun M15 =>
          f_X10_pass_L4 k w1 n v2 (v3 + 1) M15
        else
          (f_X10_quarrel M6 w1 v3).bind fun M19 =>
          f_X10_pass_L4 k w1 n v2 (v3 + 1) M19
      else
        (f_X10_breakUp M6 w1 v3).bind fun M22 =>
        (some (v2 ||| (1 <<< (v3 &&& 31)))).bind fun x23 =>
        f_X10_pass_L4 k w1 n x23 (v3 + 1) M22
def f_X10_pass (M : tm_M) (p1 : Int32) : Option (Int32 × tm_M) :=
  f_X10_pass_L4 (fun v24 v25 M26 =>
    (tm_rd M26 132 672 (p1 + 0)).bind fun x27 =>
    (tm_wr M26 132 672 (p1 + 0) (x27 + 1)).bind fun M29 =>
    some (v24, M29)) p1 1000 0 0 M
set_option maxHeartbeats 4000000 in
set_option maxRecDepth 100000 in
theorem w_X10_pass_L4 {p : Program} {l : Launch} {e : Env} {s : State} {m : MethodId} {args : Array Value} {below : List Frame} {meth : Method} {c : Code} {g : tm_G} {A : Nat → Prop} {L : List Nat} (C0 : tm_C p m c cX10_pass 5 s args wsX10_pass RX10 meth (some .int) g A L tm_all) (w1 : Int32) (k : Int32 → Int32 → tm_M → Option (Int32 × tm_M)) (R0 : Int32 × tm_M) (hk : ∀ (v2 : Int32) (v3 : Int32) (M : tm_M), k v2 v3 M = some R0 → ∀ (H : Heap) (locs : List Loc) (ls : Array Slot), va_P g.1 vwCl (tm_ws g L M) H → va_S A s.heap H locs → lv_has ls 5 [(0, .ref (g.2.2 + 127)), (1, .int w1), (2, .int v2), (3, .int v3)] → W p l e { frames := 3, cells := 0, slots := 0, locals := 69 } s m args below meth c H locs 0 0 (MQ below (tm_QI g A L R0) args s 0 0 A) (F0 m 101 ls [])) : ∀ (n : Nat) (v2 : Int32) (v3 : Int32) (M : tm_M), f_X10_pass_L4 k w1 n v2 v3 M = some R0 → ∀ (H : Heap) (locs : List Loc) (ls : Array Slot), va_P g.1 vwCl (tm_ws g L M) H → va_S A s.heap H locs → lv_has ls 5 [(0, .ref (g.2.2 + 127)), (1, .int w1), (2, .int v2), (3, .int v3)] → W p l e { frames := 3, cells := 0, slots := 0, locals := 69 } s m args below meth c H locs 0 0 (MQ below (tm_QI g A L R0) args s 0 0 A) (F0 m 4 ls []) := by
  obtain ⟨⟨hx, hb, hml, hown, hts⟩, hr, hlk, hK, hD, hG, hF⟩ := id C0
  intro n
  induction n with
  | zero =>
    intro v2 v3 M h
    simp [f_X10_pass_L4] at h
  | succ n ih =>
    intro v2 v3 M h H locs ls hP hS hl
    rw [f_X10_pass_L4] at h
    refine lv_iload_n hx hb dX10_pass_4 rfl (lv_at hl 3 rfl) ?_
    refine lv_aload_n hx hb dX10_pass_5 rfl (lv_at hl 0 rfl) ?_
    refine tm_get (C := RX10) (T := TX10) (N := 23) (v := .int (M 127 7)) hx hb hts nX10_pass_X10 hown hK hP (hF 127 (by decide)) (tm_mkX10 (by decide) _) rfl 7 (by decide) (hts _ kX10_pass_0) rfl dX10_pass_6 ?_
    refine lv_icmp_ge (tgt := 101) hx hb dX10_pass_9 (by decide) (fun c1 => ?_) (fun c1 => ?_)
    · rw [if_pos c1] at h
      exact hk v2 v3 M h _ _ _ hP hS (lv_sub hl [0, 1, 2, 3] rfl)
    · rw [if_neg c1] at h
      refine lv_aload_n hx hb dX10_pass_12 rfl (lv_at hl 0 rfl) ?_
      refine lv_iload_n hx hb dX10_pass_13 rfl (lv_at hl 1 rfl) ?_
      refine lv_iload_n hx hb dX10_pass_14 rfl (lv_at hl 3 rfl) ?_
      refine lv_aload_n hx hb dX10_pass_15 rfl (lv_at hl 0 rfl) ?_
      refine lv_iload_n hx hb dX10_pass_16 rfl (lv_at hl 1 rfl) ?_
      refine lv_iload_n hx hb dX10_pass_17 rfl (lv_at hl 3 rfl) ?_
      obtain ⟨r2, e3, h⟩ := tm_bd_some h
      refine tm_backI (r0 := r2) (M0 := M) (fun _ q => q) (tm_callV (As := [.int w1, .int v3]) (rest := [.int v3, .int w1, .ref (g.2.2 + 127)]) ⟨hx, hb, hml, hown, hts⟩ hK hG hP hS (c_X10_gainOf l g A L hD hF M w1 v3 r2 e3) (cwV 2 hts gX10_pass_X10_gainOf rfl rfl rfl (by decide +kernel) ⟨Nat.le_of_ble_eq_true rfl, Nat.le_of_ble_eq_true rfl⟩) (tm_recv hK hP (hF 127 (by decide)) (ci := 9) rfl (tm_mkX10 (by decide) _)) rfl hl.1 (lv_room (Nat.le_of_ble_eq_true rfl)) dX10_pass_18 ⟨Nat.zero_le _, Nat.zero_le _⟩) hS (fun H locs hP hS => ?_)
      obtain ⟨M6, e5, h⟩ := tm_bd_some h
      refine tm_backV (M0 := M6) (fun _ q => q) (tm_callV (As := [.int w1, .int v3, .int r2]) (rest := []) ⟨hx, hb, hml, hown, hts⟩ hK hG hP hS (c_X10_strainMore l g A L hD hF M w1 v3 r2 M6 e5) (cwV 3 hts gX10_pass_X10_strainMore rfl rfl rfl (by decide +kernel) ⟨Nat.le_of_ble_eq_true rfl, Nat.le_of_ble_eq_true rfl⟩) (tm_recv hK hP (hF 127 (by decide)) (ci := 9) rfl (tm_mkX10 (by decide) _)) rfl hl.1 (lv_room (Nat.le_of_ble_eq_true rfl)) dX10_pass_21 ⟨Nat.zero_le _, Nat.zero_le _⟩) hS (fun H locs hP hS => ?_)
      refine lv_aload_n hx hb dX10_pass_24 rfl (lv_at hl 0 rfl) ?_
      refine tm_get (C := RX10) (T := TX10) (N := 23) (v := .ref (g.2.2 + 132)) hx hb hts nX10_pass_X10 hown hK hP (hF 127 (by decide)) (tm_mkX10 (by decide) _) rfl 4 (by decide) (hts _ kX10_pass_1) rfl dX10_pass_25 ?_
      refine lv_iload_n hx hb dX10_pass_28 rfl (lv_at hl 1 rfl) ?_
      refine lv_bipush (v := 7) hx hb dX10_pass_29 (by decide) ?_
      refine lv_iadd hx hb dX10_pass_31 ?_
      refine lv_iload_n hx hb dX10_pass_32 rfl (lv_at hl 3 rfl) ?_
      refine lv_iadd hx hb dX10_pass_33 ?_
      obtain ⟨x7, e8, h⟩ := tm_bd_some h
      refine tm_iald hx hb hK hP (hF 132 (by decide)) (tm_mkI (n := 672) (by decide) (by decide)) e8 dX10_pass_34 ?_
      refine lv_istore (lv' := [(4, .int x7), (0, .ref (g.2.2 + 127)), (1, .int w1), (2, .int v2), (3, .int v3)]) hx hb dX10_pass_35 hl (by decide) rfl (fun ls hl => ?_)
      refine lv_iload hx hb dX10_pass_37 (lv_at hl 0 rfl) ?_
      refine lv_aload_n hx hb dX10_pass_39 rfl (lv_at hl 1 rfl) ?_
      refine lv_iload_n hx hb dX10_pass_40 rfl (lv_at hl 2 rfl) ?_
      refine lv_iconst (v := 4) hx hb dX10_pass_41 (by decide) ?_
      obtain ⟨r9, e10, h⟩ := tm_bd_some h
      refine tm_backI (r0 := r9) (M0 := M6) (fun _ q => q) (tm_callV (As := [.int w1, .int 4]) (rest := [.int x7]) ⟨hx, hb, hml, hown, hts⟩ hK hG hP hS (c_X10_termOf l g A L hD hF M6 w1 4 r9 e10) (cwV 2 hts gX10_pass_X10_termOf rfl rfl rfl (by decide +kernel) ⟨Nat.le_of_ble_eq_true rfl, Nat.le_of_ble_eq_true rfl⟩) (tm_recv hK hP (hF 127 (by decide)) (ci := 9) rfl (tm_mkX10 (by decide) _)) rfl hl.1 (lv_room (Nat.le_of_ble_eq_true rfl)) dX10_pass_42 ⟨Nat.zero_le _, Nat.zero_le _⟩) hS (fun H locs hP hS => ?_)
      refine lv_icmp_lt (tgt := 63) hx hb dX10_pass_45 (by decide) (fun c11 => ?_) (fun c11 => ?_)
      · rw [if_pos c11] at h
        refine lv_iload hx hb dX10_pass_63 (lv_at hl 0 rfl) ?_
        refine lv_aload_n hx hb dX10_pass_65 rfl (lv_at hl 1 rfl) ?_
        refine lv_iload_n hx hb dX10_pass_66 rfl (lv_at hl 2 rfl) ?_
        refine lv_iconst (v := 3) hx hb dX10_pass_67 (by decide) ?_
        obtain ⟨r12, e13, h⟩ := tm_bd_some h
        refine tm_backI (r0 := r12) (M0 := M6) (fun _ q => q) (tm_callV (As := [.int w1, .int 3]) (rest := [.int x7]) ⟨hx, hb, hml, hown, hts⟩ hK hG hP hS (c_X10_termOf l g A L hD hF M6 w1 3 r12 e13) (cwV 2 hts gX10_pass_X10_termOf rfl rfl rfl (by decide +kernel) ⟨Nat.le_of_ble_eq_true rfl, Nat.le_of_ble_eq_true rfl⟩) (tm_recv hK hP (hF 127 (by decide)) (ci := 9) rfl (tm_mkX10 (by decide) _)) rfl hl.1 (lv_room (Nat.le_of_ble_eq_true rfl)) dX10_pass_68 ⟨Nat.zero_le _, Nat.zero_le _⟩) hS (fun H locs hP hS => ?_)
        refine lv_icmp_lt (tgt := 83) hx hb dX10_pass_71 (by decide) (fun c14 => ?_) (fun c14 => ?_)
        · rw [if_pos c14] at h
          refine lv_aload_n hx hb dX10_pass_83 rfl (lv_at hl 1 rfl) ?_
          refine tm_get (C := RX10) (T := TX10) (N := 23) (v := .ref (g.2.2 + 132)) hx hb hts nX10_pass_X10 hown hK hP (hF 127 (by decide)) (tm_mkX10 (by decide) _) rfl 4 (by decide) (hts _ kX10_pass_1) rfl dX10_pass_84 ?_
          refine lv_iload_n hx hb dX10_pass_87 rfl (lv_at hl 2 rfl) ?_
          refine lv_bipush (v := 13) hx hb dX10_pass_88 (by decide) ?_
          refine lv_iadd hx hb dX10_pass_90 ?_
          refine lv_iload_n hx hb dX10_pass_91 rfl (lv_at hl 4 rfl) ?_
          refine lv_iadd hx hb dX10_pass_92 ?_
          refine lv_iconst (v := 0) hx hb dX10_pass_93 (by decide) ?_
          obtain ⟨M15, e16, h⟩ := tm_bd_some h
          refine tm_iast hx hb hK hP hD hS (hF 132 (by decide)) (tm_mkI (n := 672) (by decide) (by decide)) e16 dX10_pass_94 (fun H locs hP hS => ?_)
          refine lv_iinc (v := v3 + 1) (lv' := [(3, .int (v3 + 1)), (4, .int x7), (0, .ref (g.2.2 + 127)), (1, .int w1), (2, .int v2)]) hx hb dX10_pass_95 hl (k := 4) rfl rfl (by decide) rfl (fun ls hl => ?_)
          refine lv_goto (tgt := 4) hx hb dX10_pass_98 (by decide) ?_
          exact ih v2 (v3 + 1) M15 h _ _ _ hP hS (lv_sub hl [2, 3, 4, 0] rfl)
        · rw [if_neg c14] at h
          refine lv_aload_n hx hb dX10_pass_74 rfl (lv_at hl 1 rfl) ?_
          refine lv_iload_n hx hb dX10_pass_75 rfl (lv_at hl 2 rfl) ?_
          refine lv_iload_n hx hb dX10_pass_76 rfl (lv_at hl 4 rfl) ?_
          obtain ⟨M19, e18, h⟩ := tm_bd_some h
          refine tm_backV (M0 := M19) (fun _ q => q) (tm_callV (As := [.int w1, .int v3]) (rest := []) ⟨hx, hb, hml, hown, hts⟩ hK hG hP hS (c_X10_quarrel l g A L hD hF M6 w1 v3 M19 e18) (cwV 2 hts gX10_pass_X10_quarrel rfl rfl rfl (by decide +kernel) ⟨Nat.le_of_ble_eq_true rfl, Nat.le_of_ble_eq_true rfl⟩) (tm_recv hK hP (hF 127 (by decide)) (ci := 9) rfl (tm_mkX10 (by decide) _)) rfl hl.1 (lv_room (Nat.le_of_ble_eq_true rfl)) dX10_pass_77 ⟨Nat.zero_le _, Nat.zero_le _⟩) hS (fun H locs hP hS => ?_)
          refine lv_goto (tgt := 95) hx hb dX10_pass_80 (by decide) ?_
          refine lv_iinc (v := v3 + 1) (lv' := [(3, .int (v3 + 1)), (4, .int x7), (0, .ref (g.2.2 + 127)), (1, .int w1), (2, .int v2)]) hx hb dX10_pass_95 hl (k := 4) rfl rfl (by decide) rfl (fun ls hl => ?_)
          refine lv_goto (tgt := 4) hx hb dX10_pass_98 (by decide) ?_
          exact ih v2 (v3 + 1) M19 h _ _ _ hP hS (lv_sub hl [2, 3, 4, 0] rfl)
      · rw [if_neg c11] at h
        refine lv_aload_n hx hb dX10_pass_48 rfl (lv_at hl 1 rfl) ?_
        refine lv_iload_n hx hb dX10_pass_49 rfl (lv_at hl 2 rfl) ?_
        refine lv_iload_n hx hb dX10_pass_50 rfl (lv_at hl 4 rfl) ?_
        obtain ⟨M22, e21, h⟩ := tm_bd_some h
        refine tm_backV (M0 := M22) (fun _ q => q) (tm_callV (As := [.int w1, .int v3]) (rest := []) ⟨hx, hb, hml, hown, hts⟩ hK hG hP hS (c_X10_breakUp l g A L hD hF M6 w1 v3 M22 e21) (cwV 2 hts gX10_pass_X10_breakUp rfl rfl rfl (by decide +kernel) ⟨Nat.le_of_ble_eq_true rfl, Nat.le_of_ble_eq_true rfl⟩) (tm_recv hK hP (hF 127 (by decide)) (ci := 9) rfl (tm_mkX10 (by decide) _)) rfl hl.1 (lv_room (Nat.le_of_ble_eq_true rfl)) dX10_pass_51 ⟨Nat.zero_le _, Nat.zero_le _⟩) hS (fun H locs hP hS => ?_)
        refine lv_iload_n hx hb dX10_pass_54 rfl (lv_at hl 3 rfl) ?_
        refine lv_iconst (v := 1) hx hb dX10_pass_55 (by decide) ?_
        refine lv_iload_n hx hb dX10_pass_56 rfl (lv_at hl 4 rfl) ?_
        refine lv_ishl hx hb dX10_pass_57 ?_
        refine lv_ior hx hb dX10_pass_58 ?_
        refine tm_nam h (fun x23 h => ?_)
        refine lv_istore_n (lv' := [(2, .int x23), (4, .int x7), (0, .ref (g.2.2 + 127)), (1, .int w1), (3, .int v3)]) hx hb dX10_pass_59 rfl hl (by decide) rfl (fun ls hl => ?_)
        refine lv_goto (tgt := 95) hx hb dX10_pass_60 (by decide) ?_
        refine lv_iinc (v := v3 + 1) (lv' := [(3, .int (v3 + 1)), (2, .int x23), (4, .int x7), (0, .ref (g.2.2 + 127)), (1, .int w1)]) hx hb dX10_pass_95 hl (k := 4) rfl rfl (by decide) rfl (fun ls hl => ?_)
        refine lv_goto (tgt := 4) hx hb dX10_pass_98 (by decide) ?_
        exact ih x23 (v3 + 1) M22 h _ _ _ hP hS (lv_sub hl [3, 4, 1, 0] rfl)
set_option maxHeartbeats 4000000 in
set_option maxRecDepth 100000 in
theorem c_X10_pass (l : Launch) (g : tm_G) (A : Nat → Prop) (L : List Nat) (hD : ∀ M, va_D A (tm_ws g L M)) (hF : ∀ o, tm_all o → o ∈ L) (M : tm_M) (p1 : Int32) (R0 : Int32 × tm_M) (h : f_X10_pass M p1 = some R0) : Met l yX10_pass wsX10_pass { frames := 3, cells := 0, slots := 0, locals := 69 } (tm_PC g A L M [.ref (g.2.2 + 127), .int p1]) (tm_QI g A L R0) 0 0 A := by
  refine tm_start (cc := cX10_pass) (nL := 5) (ret := (some .int)) (F := tm_all) (plainFor_of_name (by decide)) rfl (Nat.le_of_ble_eq_true rfl) hD hF (fun p e s m args below meth c ls C0 hP hS hl => ?_)
  have hl : lv_has ls 5 [(0, .ref (g.2.2 + 127)), (1, .int p1)] := hl
  have C0 : tm_C p m c cX10_pass 5 s args wsX10_pass RX10 meth (some .int) g A L tm_all := C0
  obtain ⟨⟨hx, hb, hml, hown, hts⟩, hr, hlk, hK, hD, hG, hF⟩ := id C0
  unfold f_X10_pass at h
  refine lv_iconst (v := 0) hx hb dX10_pass_0 (by decide) ?_
  refine lv_istore_n (lv' := [(2, .int 0), (0, .ref (g.2.2 + 127)), (1, .int p1)]) hx hb dX10_pass_1 rfl hl (by decide) rfl (fun ls hl => ?_)
  refine lv_iconst (v := 0) hx hb dX10_pass_2 (by decide) ?_
  refine lv_istore_n (lv' := [(3, .int 0), (2, .int 0), (0, .ref (g.2.2 + 127)), (1, .int p1)]) hx hb dX10_pass_3 rfl hl (by decide) rfl (fun ls hl => ?_)
  refine w_X10_pass_L4 C0 p1 _ R0 (fun v24 v25 M26 h H locs ls hP hS hl => ?_) 1000 0 0 M h _ _ _ hP hS (lv_sub hl [2, 3, 1, 0] rfl)
  refine lv_aload_n hx hb dX10_pass_101 rfl (lv_at hl 0 rfl) ?_
  refine tm_get (C := RX10) (T := TX10) (N := 23) (v := .ref (g.2.2 + 132)) hx hb hts nX10_pass_X10 hown hK hP (hF 127 (by decide)) (tm_mkX10 (by decide) _) rfl 4 (by decide) (hts _ kX10_pass_1) rfl dX10_pass_102 ?_
  refine lv_iload_n hx hb dX10_pass_105 rfl (lv_at hl 1 rfl) ?_
  refine lv_iconst (v := 0) hx hb dX10_pass_106 (by decide) ?_
  refine lv_iadd hx hb dX10_pass_107 ?_
  refine lv_dup2_11 hx hb dX10_pass_108 rfl rfl ?_
  obtain ⟨x27, e28, h⟩ := tm_bd_some h
  refine tm_iald hx hb hK hP (hF 132 (by decide)) (tm_mkI (n := 672) (by decide) (by decide)) e28 dX10_pass_109 ?_
  refine lv_iconst (v := 1) hx hb dX10_pass_110 (by decide) ?_
  refine lv_iadd hx hb dX10_pass_111 ?_
  obtain ⟨M29, e30, h⟩ := tm_bd_some h
  refine tm_iast hx hb hK hP hD hS (hF 132 (by decide)) (tm_mkI (n := 672) (by decide) (by decide)) e30 dX10_pass_112 (fun H locs hP hS => ?_)
  refine lv_iload_n hx hb dX10_pass_113 rfl (lv_at hl 2 rfl) ?_
  exact tm_iret C0 (Option.some.inj h) hP hS dX10_pass_114
/-! X10_copyDesk -/
theorem nX10_copyDesk_X10 : ∀ w ∈ wsX100, w ∈ wsX10_copyDesk := by decide +kernel
theorem kX10_copyDesk_0 : Cond.fieldLink RX10 22 "QuarrelDeskModel" "row" "[I" ∈ wsX10_copyDesk := by decide +kernel
def f_X10_copyDesk_L2 (k : Int32 → tm_M → Option tm_M) (w1 : Int32) (w2 : Int32) : Nat → Int32 → tm_M → Option tm_M
  | 0, _, _ => none
  | n + 1, v3, M =>
    if 56 ≤ v3 then
      k v3 M
    else
      (tm_rd M 132 672 (w1 + v3)).bind fun x2 =>
      (tm_wr M 132 672 (w2 + v3) x2).bind fun M4 =>
      f_X10_copyDesk_L2 k w1 w2 n (v3 + 1) M4
def f_X10_copyDesk (M : tm_M) (p1 : Int32) (p2 : Int32) : Option tm_M :=
  f_X10_copyDesk_L2 (fun v6 M7 =>
    some M7) p1 p2 1000 0 M
set_option maxHeartbeats 4000000 in
set_option maxRecDepth 100000 in
theorem w_X10_copyDesk_L2 {p : Program} {l : Launch} {e : Env} {s : State} {m : MethodId} {args : Array Value} {below : List Frame} {meth : Method} {c : Code} {g : tm_G} {A : Nat → Prop} {L : List Nat} (C0 : tm_C p m c cX10_copyDesk 4 s args wsX10_copyDesk RX10 meth none g A L tm_all) (w1 : Int32) (w2 : Int32) (k : Int32 → tm_M → Option tm_M) (M0 : tm_M) (hk : ∀ (v3 : Int32) (M : tm_M), k v3 M = some M0 → ∀ (H : Heap) (locs : List Loc) (ls : Array Slot), va_P g.1 vwCl (tm_ws g L M) H → va_S A s.heap H locs → lv_has ls 4 [(0, .ref (g.2.2 + 127)), (1, .int w1), (2, .int w2), (3, .int v3)] → W p l e { frames := 0, cells := 0, slots := 0, locals := 0 } s m args below meth c H locs 0 0 (MQ below (tm_QV g A L M0) args s 0 0 A) (F0 m 30 ls [])) : ∀ (n : Nat) (v3 : Int32) (M : tm_M), f_X10_copyDesk_L2 k w1 w2 n v3 M = some M0 → ∀ (H : Heap) (locs : List Loc) (ls : Array Slot), va_P g.1 vwCl (tm_ws g L M) H → va_S A s.heap H locs → lv_has ls 4 [(0, .ref (g.2.2 + 127)), (1, .int w1), (2, .int w2), (3, .int v3)] → W p l e { frames := 0, cells := 0, slots := 0, locals := 0 } s m args below meth c H locs 0 0 (MQ below (tm_QV g A L M0) args s 0 0 A) (F0 m 2 ls []) := by
  obtain ⟨⟨hx, hb, hml, hown, hts⟩, hr, hlk, hK, hD, hG, hF⟩ := id C0
  intro n
  induction n with
  | zero =>
    intro v3 M h
    simp [f_X10_copyDesk_L2] at h
  | succ n ih =>
    intro v3 M h H locs ls hP hS hl
    rw [f_X10_copyDesk_L2] at h
    refine lv_iload_n hx hb dX10_copyDesk_2 rfl (lv_at hl 3 rfl) ?_
    refine lv_bipush (v := 56) hx hb dX10_copyDesk_3 (by decide) ?_
    refine lv_icmp_ge (tgt := 30) hx hb dX10_copyDesk_5 (by decide) (fun c1 => ?_) (fun c1 => ?_)
    · rw [if_pos c1] at h
      exact hk v3 M h _ _ _ hP hS (lv_sub hl [0, 1, 2, 3] rfl)
    · rw [if_neg c1] at h
      refine lv_aload_n hx hb dX10_copyDesk_8 rfl (lv_at hl 0 rfl) ?_
      refine tm_get (C := RX10) (T := TX10) (N := 23) (v := .ref (g.2.2 + 132)) hx hb hts nX10_copyDesk_X10 hown hK hP (hF 127 (by decide)) (tm_mkX10 (by decide) _) rfl 4 (by decide) (hts _ kX10_copyDesk_0) rfl dX10_copyDesk_9 ?_
      refine lv_iload_n hx hb dX10_copyDesk_12 rfl (lv_at hl 2 rfl) ?_
      refine lv_iload_n hx hb dX10_copyDesk_13 rfl (lv_at hl 3 rfl) ?_
      refine lv_iadd hx hb dX10_copyDesk_14 ?_
      refine lv_aload_n hx hb dX10_copyDesk_15 rfl (lv_at hl 0 rfl) ?_
      refine tm_get (C := RX10) (T := TX10) (N := 23) (v := .ref (g.2.2 + 132)) hx hb hts nX10_copyDesk_X10 hown hK hP (hF 127 (by decide)) (tm_mkX10 (by decide) _) rfl 4 (by decide) (hts _ kX10_copyDesk_0) rfl dX10_copyDesk_16 ?_
      refine lv_iload_n hx hb dX10_copyDesk_19 rfl (lv_at hl 1 rfl) ?_
      refine lv_iload_n hx hb dX10_copyDesk_20 rfl (lv_at hl 3 rfl) ?_
      refine lv_iadd hx hb dX10_copyDesk_21 ?_
      obtain ⟨x2, e3, h⟩ := tm_bd_some h
      refine tm_iald hx hb hK hP (hF 132 (by decide)) (tm_mkI (n := 672) (by decide) (by decide)) e3 dX10_copyDesk_22 ?_
      obtain ⟨M4, e5, h⟩ := tm_bd_some h
      refine tm_iast hx hb hK hP hD hS (hF 132 (by decide)) (tm_mkI (n := 672) (by decide) (by decide)) e5 dX10_copyDesk_23 (fun H locs hP hS => ?_)
      refine lv_iinc (v := v3 + 1) (lv' := [(3, .int (v3 + 1)), (0, .ref (g.2.2 + 127)), (1, .int w1), (2, .int w2)]) hx hb dX10_copyDesk_24 hl (k := 3) rfl rfl (by decide) rfl (fun ls hl => ?_)
      refine lv_goto (tgt := 2) hx hb dX10_copyDesk_27 (by decide) ?_
      exact ih (v3 + 1) M4 h _ _ _ hP hS (lv_sub hl [1, 2, 3, 0] rfl)
set_option maxHeartbeats 4000000 in
set_option maxRecDepth 100000 in
theorem c_X10_copyDesk (l : Launch) (g : tm_G) (A : Nat → Prop) (L : List Nat) (hD : ∀ M, va_D A (tm_ws g L M)) (hF : ∀ o, tm_all o → o ∈ L) (M : tm_M) (p1 : Int32) (p2 : Int32) (M0 : tm_M) (h : f_X10_copyDesk M p1 p2 = some M0) : Met l yX10_copyDesk wsX10_copyDesk { frames := 0, cells := 0, slots := 0, locals := 0 } (tm_PC g A L M [.ref (g.2.2 + 127), .int p1, .int p2]) (tm_QV g A L M0) 0 0 A := by
  refine tm_start (cc := cX10_copyDesk) (nL := 4) (ret := none) (F := tm_all) (plainFor_of_name (by decide)) rfl (Nat.le_of_ble_eq_true rfl) hD hF (fun p e s m args below meth c ls C0 hP hS hl => ?_)
  have hl : lv_has ls 4 [(0, .ref (g.2.2 + 127)), (1, .int p1), (2, .int p2)] := hl
  have C0 : tm_C p m c cX10_copyDesk 4 s args wsX10_copyDesk RX10 meth none g A L tm_all := C0
  obtain ⟨⟨hx, hb, hml, hown, hts⟩, hr, hlk, hK, hD, hG, hF⟩ := id C0
  unfold f_X10_copyDesk at h
  refine lv_iconst (v := 0) hx hb dX10_copyDesk_0 (by decide) ?_
  refine lv_istore_n (lv' := [(3, .int 0), (0, .ref (g.2.2 + 127)), (1, .int p1), (2, .int p2)]) hx hb dX10_copyDesk_1 rfl hl (by decide) rfl (fun ls hl => ?_)
  refine w_X10_copyDesk_L2 C0 p1 p2 _ M0 (fun v6 M7 h H locs ls hP hS hl => ?_) 1000 0 M h _ _ _ hP hS (lv_sub hl [1, 2, 3, 0] rfl)
  exact tm_vret C0 (Option.some.inj h) hP hS dX10_copyDesk_30
/-! X10_keepPast -/
theorem nX10_keepPast_X10 : ∀ w ∈ wsX100, w ∈ wsX10_keepPast := by decide +kernel
theorem kX10_keepPast_0 : Cond.fieldLink RX10 63 "QuarrelDeskModel" "undos" "I" ∈ wsX10_keepPast := by decide +kernel
theorem kX10_keepPast_1 : Cond.fieldLink RX10 22 "QuarrelDeskModel" "row" "[I" ∈ wsX10_keepPast := by decide +kernel
def f_X10_keepPast_L2 (k : Int32 → tm_M → Option tm_M) : Nat → Int32 → tm_M → Option tm_M
  | 0, _, _ => none
  | n + 1, v1, M =>
    if 392 ≤ v1 then
      k v1 M
    else
      if (M 127 5) = 8 then
        (tm_rd M 132 672 (112 + v1)).bind fun x3 =>
        (tm_wr M 132 672 (56 + v1) x3).bind fun M5 =>
        f_X10_keepPast_L2 k  n (v1 + 1) M5
      else
        k v1 M
def f_X10_keepPast (M : tm_M) : Option tm_M :=
  f_X10_keepPast_L2 (fun v7 M8 =>
    if (M8 127 5) = 8 then
      (some (tm_st M8 127 5 ((M8 127 5) - 1))).bind fun M17 =>
      (f_X10_copyDesk M17 0 (56 + (56 * (M17 127 5)))).bind fun M21 =>
      (some (tm_st M21 127 5 ((M21 127 5) + 1))).bind fun M22 =>
      some M22
    else
      (some (tm_st M8 127 5 ((M8 127 5) - 0))).bind fun M10 =>
      (f_X10_copyDesk M10 0 (56 + (56 * (M10 127 5)))).bind fun M14 =>
      (some (tm_st M14 127 5 ((M14 127 5) + 1))).bind fun M15 =>
      some M15)  1000 0 M
set_option maxHeartbeats 4000000 in
set_option maxRecDepth 100000 in
theorem w_X10_keepPast_L2 {p : Program} {l : Launch} {e : Env} {s : State} {m : MethodId} {args : Array Value} {below : List Frame} {meth : Method} {c : Code} {g : tm_G} {A : Nat → Prop} {L : List Nat} (C0 : tm_C p m c cX10_keepPast 2 s args wsX10_keepPast RX10 meth none g A L tm_all) (k : Int32 → tm_M → Option tm_M) (M0 : tm_M) (hk : ∀ (v1 : Int32) (M : tm_M), k v1 M = some M0 → ∀ (H : Heap) (locs : List Loc) (ls : Array Slot), va_P g.1 vwCl (tm_ws g L M) H → va_S A s.heap H locs → lv_has ls 2 [(0, .ref (g.2.2 + 127)), (1, .int v1)] → W p l e { frames := 1, cells := 0, slots := 0, locals := 23 } s m args below meth c H locs 0 0 (MQ below (tm_QV g A L M0) args s 0 0 A) (F0 m 42 ls [])) : ∀ (n : Nat) (v1 : Int32) (M : tm_M), f_X10_keepPast_L2 k  n v1 M = some M0 → ∀ (H : Heap) (locs : List Loc) (ls : Array Slot), va_P g.1 vwCl (tm_ws g L M) H → va_S A s.heap H locs → lv_has ls 2 [(0, .ref (g.2.2 + 127)), (1, .int v1)] → W p l e { frames := 1, cells := 0, slots := 0, locals := 23 } s m args below meth c H locs 0 0 (MQ below (tm_QV g A L M0) args s 0 0 A) (F0 m 2 ls []) := by
  obtain ⟨⟨hx, hb, hml, hown, hts⟩, hr, hlk, hK, hD, hG, hF⟩ := id C0
  intro n
  induction n with
  | zero =>
    intro v1 M h
    simp [f_X10_keepPast_L2] at h
  | succ n ih =>
    intro v1 M h H locs ls hP hS hl
    rw [f_X10_keepPast_L2] at h
    refine lv_iload_n hx hb dX10_keepPast_2 rfl (lv_at hl 1 rfl) ?_
    refine lv_sipush (v := 392) hx hb dX10_keepPast_3 (by decide) ?_
    refine lv_icmp_ge (tgt := 42) hx hb dX10_keepPast_6 (by decide) (fun c1 => ?_) (fun c1 => ?_)
    · rw [if_pos c1] at h
      exact hk v1 M h _ _ _ hP hS (lv_sub hl [0, 1] rfl)
    · rw [if_neg c1] at h
      refine lv_aload_n hx hb dX10_keepPast_9 rfl (lv_at hl 0 rfl) ?_
      refine tm_get (C := RX10) (T := TX10) (N := 23) (v := .int (M 127 5)) hx hb hts nX10_keepPast_X10 hown hK hP (hF 127 (by decide)) (tm_mkX10 (by decide) _) rfl 5 (by decide) (hts _ kX10_keepPast_0) rfl dX10_keepPast_10 ?_
      refine lv_bipush (v := 8) hx hb dX10_keepPast_13 (by decide) ?_
      refine lv_icmp_ne (tgt := 42) hx hb dX10_keepPast_15 (by decide) (fun c2 => ?_) (fun c2 => ?_)
      · rw [if_neg c2] at h
        exact hk v1 M h _ _ _ hP hS (lv_sub hl [0, 1] rfl)
      · rw [if_pos c2] at h
        refine lv_aload_n hx hb dX10_keepPast_18 rfl (lv_at hl 0 rfl) ?_
        refine tm_get (C := RX10) (T := TX10) (N := 23) (v := .ref (g.2.2 + 132)) hx hb hts nX10_keepPast_X10 hown hK hP (hF 127 (by decide)) (tm_mkX10 (by decide) _) rfl 4 (by decide) (hts _ kX10_keepPast_1) rfl dX10_keepPast_19 ?_
        refine lv_bipush (v := 56) hx hb dX10_keepPast_22 (by decide) ?_
        refine lv_iload_n hx hb dX10_keepPast_24 rfl (lv_at hl 1 rfl) ?_
        refine lv_iadd hx hb dX10_keepPast_25 ?_
        refine lv_aload_n hx hb dX10_keepPast_26 rfl (lv_at hl 0 rfl) ?_
        refine tm_get (C := RX10) (T := TX10) (N := 23) (v := .ref (g.2.2 + 132)) hx hb hts nX10_keepPast_X10 hown hK hP (hF 127 (by decide)) (tm_mkX10 (by decide) _) rfl 4 (by decide) (hts _ kX10_keepPast_1) rfl dX10_keepPast_27 ?_
        refine lv_bipush (v := 112) hx hb dX10_keepPast_30 (by decide) ?_
        refine lv_iload_n hx hb dX10_keepPast_32 rfl (lv_at hl 1 rfl) ?_
        refine lv_iadd hx hb dX10_keepPast_33 ?_
        obtain ⟨x3, e4, h⟩ := tm_bd_some h
        refine tm_iald hx hb hK hP (hF 132 (by decide)) (tm_mkI (n := 672) (by decide) (by decide)) e4 dX10_keepPast_34 ?_
        obtain ⟨M5, e6, h⟩ := tm_bd_some h
        refine tm_iast hx hb hK hP hD hS (hF 132 (by decide)) (tm_mkI (n := 672) (by decide) (by decide)) e6 dX10_keepPast_35 (fun H locs hP hS => ?_)
        refine lv_iinc (v := v1 + 1) (lv' := [(1, .int (v1 + 1)), (0, .ref (g.2.2 + 127))]) hx hb dX10_keepPast_36 hl (k := 1) rfl rfl (by decide) rfl (fun ls hl => ?_)
        refine lv_goto (tgt := 2) hx hb dX10_keepPast_39 (by decide) ?_
        exact ih (v1 + 1) M5 h _ _ _ hP hS (lv_sub hl [1, 0] rfl)
set_option maxHeartbeats 4000000 in
set_option maxRecDepth 100000 in
theorem c_X10_keepPast (l : Launch) (g : tm_G) (A : Nat → Prop) (L : List Nat) (hD : ∀ M, va_D A (tm_ws g L M)) (hF : ∀ o, tm_all o → o ∈ L) (M : tm_M) (M0 : tm_M) (h : f_X10_keepPast M = some M0) : Met l yX10_keepPast wsX10_keepPast { frames := 1, cells := 0, slots := 0, locals := 23 } (tm_PC g A L M [.ref (g.2.2 + 127)]) (tm_QV g A L M0) 0 0 A := by
  refine tm_start (cc := cX10_keepPast) (nL := 2) (ret := none) (F := tm_all) (plainFor_of_name (by decide)) rfl (Nat.le_of_ble_eq_true rfl) hD hF (fun p e s m args below meth c ls C0 hP hS hl => ?_)
  have hl : lv_has ls 2 [(0, .ref (g.2.2 + 127))] := hl
  have C0 : tm_C p m c cX10_keepPast 2 s args wsX10_keepPast RX10 meth none g A L tm_all := C0
  obtain ⟨⟨hx, hb, hml, hown, hts⟩, hr, hlk, hK, hD, hG, hF⟩ := id C0
  unfold f_X10_keepPast at h
  refine lv_iconst (v := 0) hx hb dX10_keepPast_0 (by decide) ?_
  refine lv_istore_n (lv' := [(1, .int 0), (0, .ref (g.2.2 + 127))]) hx hb dX10_keepPast_1 rfl hl (by decide) rfl (fun ls hl => ?_)
  refine w_X10_keepPast_L2 C0  _ M0 (fun v7 M8 h H locs ls hP hS hl => ?_) 1000 0 M h _ _ _ hP hS (lv_sub hl [1, 0] rfl)
  refine lv_aload_n hx hb dX10_keepPast_42 rfl (lv_at hl 0 rfl) ?_
  refine lv_dup hx hb dX10_keepPast_43 rfl ?_
  refine tm_get (C := RX10) (T := TX10) (N := 23) (v := .int (M8 127 5)) hx hb hts nX10_keepPast_X10 hown hK hP (hF 127 (by decide)) (tm_mkX10 (by decide) _) rfl 5 (by decide) (hts _ kX10_keepPast_0) rfl dX10_keepPast_44 ?_
  refine lv_aload_n hx hb dX10_keepPast_47 rfl (lv_at hl 0 rfl) ?_
  refine tm_get (C := RX10) (T := TX10) (N := 23) (v := .int (M8 127 5)) hx hb hts nX10_keepPast_X10 hown hK hP (hF 127 (by decide)) (tm_mkX10 (by decide) _) rfl 5 (by decide) (hts _ kX10_keepPast_0) rfl dX10_keepPast_48 ?_
  refine lv_bipush (v := 8) hx hb dX10_keepPast_51 (by decide) ?_
  refine lv_icmp_ne (tgt := 60) hx hb dX10_keepPast_53 (by decide) (fun c9 => ?_) (fun c9 => ?_)
  · rw [if_neg c9] at h
    refine lv_iconst (v := 0) hx hb dX10_keepPast_60 (by decide) ?_
    refine lv_isub hx hb dX10_keepPast_61 ?_
    obtain ⟨M10, e11, h⟩ := tm_bd_some h
    refine tm_put (C := RX10) (T := TX10) (N := 23) (ty := .int) (x := (M8 127 5) - 0) hx hb hts nX10_keepPast_X10 tyX10 tyX10_ok nmX10 hown hK hP hD hS (hF 127 (by decide)) (tm_mkX10 (by decide)) rfl 5 (by decide) (hts _ kX10_keepPast_0) rfl (by decide +kernel) rfl rfl (Nat.le_of_ble_eq_true rfl) rfl (Option.some.inj e11) dX10_keepPast_62 (fun H locs hP hS => ?_)
    refine lv_aload_n hx hb dX10_keepPast_65 rfl (lv_at hl 0 rfl) ?_
    refine lv_iconst (v := 0) hx hb dX10_keepPast_66 (by decide) ?_
    refine lv_bipush (v := 56) hx hb dX10_keepPast_67 (by decide) ?_
    refine lv_bipush (v := 56) hx hb dX10_keepPast_69 (by decide) ?_
    refine lv_aload_n hx hb dX10_keepPast_71 rfl (lv_at hl 0 rfl) ?_
    refine tm_get (C := RX10) (T := TX10) (N := 23) (v := .int (M10 127 5)) hx hb hts nX10_keepPast_X10 hown hK hP (hF 127 (by decide)) (tm_mkX10 (by decide) _) rfl 5 (by decide) (hts _ kX10_keepPast_0) rfl dX10_keepPast_72 ?_
    refine lv_imul hx hb dX10_keepPast_75 ?_
    refine lv_iadd hx hb dX10_keepPast_76 ?_
    obtain ⟨M14, e13, h⟩ := tm_bd_some h
    refine tm_backV (M0 := M14) (fun _ q => q) (tm_callV (As := [.int 0, .int (56 + (56 * (M10 127 5)))]) (rest := []) ⟨hx, hb, hml, hown, hts⟩ hK hG hP hS (c_X10_copyDesk l g A L hD hF M10 0 (56 + (56 * (M10 127 5))) M14 e13) (cwV 2 hts gX10_keepPast_X10_copyDesk rfl rfl rfl (by decide +kernel) ⟨Nat.le_of_ble_eq_true rfl, Nat.le_of_ble_eq_true rfl⟩) (tm_recv hK hP (hF 127 (by decide)) (ci := 9) rfl (tm_mkX10 (by decide) _)) rfl hl.1 (lv_room (Nat.le_of_ble_eq_true rfl)) dX10_keepPast_77 ⟨Nat.zero_le _, Nat.zero_le _⟩) hS (fun H locs hP hS => ?_)
    refine lv_aload_n hx hb dX10_keepPast_80 rfl (lv_at hl 0 rfl) ?_
    refine lv_dup hx hb dX10_keepPast_81 rfl ?_
    refine tm_get (C := RX10) (T := TX10) (N := 23) (v := .int (M14 127 5)) hx hb hts nX10_keepPast_X10 hown hK hP (hF 127 (by decide)) (tm_mkX10 (by decide) _) rfl 5 (by decide) (hts _ kX10_keepPast_0) rfl dX10_keepPast_82 ?_
    refine lv_iconst (v := 1) hx hb dX10_keepPast_85 (by decide) ?_
    refine lv_iadd hx hb dX10_keepPast_86 ?_
    obtain ⟨M15, e16, h⟩ := tm_bd_some h
    refine tm_put (C := RX10) (T := TX10) (N := 23) (ty := .int) (x := (M14 127 5) + 1) hx hb hts nX10_keepPast_X10 tyX10 tyX10_ok nmX10 hown hK hP hD hS (hF 127 (by decide)) (tm_mkX10 (by decide)) rfl 5 (by decide) (hts _ kX10_keepPast_0) rfl (by decide +kernel) rfl rfl (Nat.le_of_ble_eq_true rfl) rfl (Option.some.inj e16) dX10_keepPast_87 (fun H locs hP hS => ?_)
    exact tm_vret C0 (Option.some.inj h) hP hS dX10_keepPast_90
  · rw [if_pos c9] at h
    refine lv_iconst (v := 1) hx hb dX10_keepPast_56 (by decide) ?_
    refine lv_goto (tgt := 61) hx hb dX10_keepPast_57 (by decide) ?_
    refine lv_isub hx hb dX10_keepPast_61 ?_
    obtain ⟨M17, e18, h⟩ := tm_bd_some h
    refine tm_put (C := RX10) (T := TX10) (N := 23) (ty := .int) (x := (M8 127 5) - 1) hx hb hts nX10_keepPast_X10 tyX10 tyX10_ok nmX10 hown hK hP hD hS (hF 127 (by decide)) (tm_mkX10 (by decide)) rfl 5 (by decide) (hts _ kX10_keepPast_0) rfl (by decide +kernel) rfl rfl (Nat.le_of_ble_eq_true rfl) rfl (Option.some.inj e18) dX10_keepPast_62 (fun H locs hP hS => ?_)
    refine lv_aload_n hx hb dX10_keepPast_65 rfl (lv_at hl 0 rfl) ?_
    refine lv_iconst (v := 0) hx hb dX10_keepPast_66 (by decide) ?_
    refine lv_bipush (v := 56) hx hb dX10_keepPast_67 (by decide) ?_
    refine lv_bipush (v := 56) hx hb dX10_keepPast_69 (by decide) ?_
    refine lv_aload_n hx hb dX10_keepPast_71 rfl (lv_at hl 0 rfl) ?_
    refine tm_get (C := RX10) (T := TX10) (N := 23) (v := .int (M17 127 5)) hx hb hts nX10_keepPast_X10 hown hK hP (hF 127 (by decide)) (tm_mkX10 (by decide) _) rfl 5 (by decide) (hts _ kX10_keepPast_0) rfl dX10_keepPast_72 ?_
    refine lv_imul hx hb dX10_keepPast_75 ?_
    refine lv_iadd hx hb dX10_keepPast_76 ?_
    obtain ⟨M21, e20, h⟩ := tm_bd_some h
    refine tm_backV (M0 := M21) (fun _ q => q) (tm_callV (As := [.int 0, .int (56 + (56 * (M17 127 5)))]) (rest := []) ⟨hx, hb, hml, hown, hts⟩ hK hG hP hS (c_X10_copyDesk l g A L hD hF M17 0 (56 + (56 * (M17 127 5))) M21 e20) (cwV 2 hts gX10_keepPast_X10_copyDesk rfl rfl rfl (by decide +kernel) ⟨Nat.le_of_ble_eq_true rfl, Nat.le_of_ble_eq_true rfl⟩) (tm_recv hK hP (hF 127 (by decide)) (ci := 9) rfl (tm_mkX10 (by decide) _)) rfl hl.1 (lv_room (Nat.le_of_ble_eq_true rfl)) dX10_keepPast_77 ⟨Nat.zero_le _, Nat.zero_le _⟩) hS (fun H locs hP hS => ?_)
    refine lv_aload_n hx hb dX10_keepPast_80 rfl (lv_at hl 0 rfl) ?_
    refine lv_dup hx hb dX10_keepPast_81 rfl ?_
    refine tm_get (C := RX10) (T := TX10) (N := 23) (v := .int (M21 127 5)) hx hb hts nX10_keepPast_X10 hown hK hP (hF 127 (by decide)) (tm_mkX10 (by decide) _) rfl 5 (by decide) (hts _ kX10_keepPast_0) rfl dX10_keepPast_82 ?_
    refine lv_iconst (v := 1) hx hb dX10_keepPast_85 (by decide) ?_
    refine lv_iadd hx hb dX10_keepPast_86 ?_
    obtain ⟨M22, e23, h⟩ := tm_bd_some h
    refine tm_put (C := RX10) (T := TX10) (N := 23) (ty := .int) (x := (M21 127 5) + 1) hx hb hts nX10_keepPast_X10 tyX10 tyX10_ok nmX10 hown hK hP hD hS (hF 127 (by decide)) (tm_mkX10 (by decide)) rfl 5 (by decide) (hts _ kX10_keepPast_0) rfl (by decide +kernel) rfl rfl (Nat.le_of_ble_eq_true rfl) rfl (Option.some.inj e23) dX10_keepPast_87 (fun H locs hP hS => ?_)
    exact tm_vret C0 (Option.some.inj h) hP hS dX10_keepPast_90
/-! X10_day -/
theorem nX10_day_X10 : ∀ w ∈ wsX100, w ∈ wsX10_day := by decide +kernel
theorem kX10_day_0 : Cond.fieldLink RX10 22 "QuarrelDeskModel" "row" "[I" ∈ wsX10_day := by decide +kernel
def f_X10_day (M : tm_M) : Option (Int32 × tm_M) :=
  (tm_rd M 132 672 0).bind fun x1 =>
  if x1 = 999 then
    some ((-5), M)
  else
    (f_X10_keepPast M).bind fun M6 =>
    (f_X10_pass M6 0).bind fun r7 =>
    some (r7.1, r7.2)
set_option maxHeartbeats 4000000 in
set_option maxRecDepth 100000 in
theorem c_X10_day (l : Launch) (g : tm_G) (A : Nat → Prop) (L : List Nat) (hD : ∀ M, va_D A (tm_ws g L M)) (hF : ∀ o, tm_all o → o ∈ L) (M : tm_M) (R0 : Int32 × tm_M) (h : f_X10_day M = some R0) : Met l yX10_day wsX10_day { frames := 4, cells := 0, slots := 0, locals := 93 } (tm_PC g A L M [.ref (g.2.2 + 127)]) (tm_QI g A L R0) 0 0 A := by
  refine tm_start (cc := cX10_day) (nL := 1) (ret := (some .int)) (F := tm_all) (plainFor_of_name (by decide)) rfl (Nat.le_of_ble_eq_true rfl) hD hF (fun p e s m args below meth c ls C0 hP hS hl => ?_)
  have hl : lv_has ls 1 [(0, .ref (g.2.2 + 127))] := hl
  have C0 : tm_C p m c cX10_day 1 s args wsX10_day RX10 meth (some .int) g A L tm_all := C0
  obtain ⟨⟨hx, hb, hml, hown, hts⟩, hr, hlk, hK, hD, hG, hF⟩ := id C0
  unfold f_X10_day at h
  refine lv_aload_n hx hb dX10_day_0 rfl (lv_at hl 0 rfl) ?_
  refine tm_get (C := RX10) (T := TX10) (N := 23) (v := .ref (g.2.2 + 132)) hx hb hts nX10_day_X10 hown hK hP (hF 127 (by decide)) (tm_mkX10 (by decide) _) rfl 4 (by decide) (hts _ kX10_day_0) rfl dX10_day_1 ?_
  refine lv_iconst (v := 0) hx hb dX10_day_4 (by decide) ?_
  obtain ⟨x1, e2, h⟩ := tm_bd_some h
  refine tm_iald hx hb hK hP (hF 132 (by decide)) (tm_mkI (n := 672) (by decide) (by decide)) e2 dX10_day_5 ?_
  refine lv_sipush (v := 999) hx hb dX10_day_6 (by decide) ?_
  refine lv_icmp_ne (tgt := 15) hx hb dX10_day_9 (by decide) (fun c3 => ?_) (fun c3 => ?_)
  · rw [if_neg c3] at h
    refine lv_aload_n hx hb dX10_day_15 rfl (lv_at hl 0 rfl) ?_
    obtain ⟨M6, e5, h⟩ := tm_bd_some h
    refine tm_backV (M0 := M6) (fun _ q => q) (tm_callV (As := []) (rest := []) ⟨hx, hb, hml, hown, hts⟩ hK hG hP hS (c_X10_keepPast l g A L hD hF M M6 e5) (cwV 0 hts gX10_day_X10_keepPast rfl rfl rfl (by decide +kernel) ⟨Nat.le_of_ble_eq_true rfl, Nat.le_of_ble_eq_true rfl⟩) (tm_recv hK hP (hF 127 (by decide)) (ci := 9) rfl (tm_mkX10 (by decide) _)) rfl hl.1 (lv_room (Nat.le_of_ble_eq_true rfl)) dX10_day_16 ⟨Nat.zero_le _, Nat.zero_le _⟩) hS (fun H locs hP hS => ?_)
    refine lv_aload_n hx hb dX10_day_19 rfl (lv_at hl 0 rfl) ?_
    refine lv_iconst (v := 0) hx hb dX10_day_20 (by decide) ?_
    obtain ⟨r7, e8, h⟩ := tm_bd_some h
    refine tm_backI (r0 := r7.1) (M0 := r7.2) (fun _ q => q) (tm_callV (As := [.int 0]) (rest := []) ⟨hx, hb, hml, hown, hts⟩ hK hG hP hS (c_X10_pass l g A L hD hF M6 0 r7 e8) (cwV 1 hts gX10_day_X10_pass rfl rfl rfl (by decide +kernel) ⟨Nat.le_of_ble_eq_true rfl, Nat.le_of_ble_eq_true rfl⟩) (tm_recv hK hP (hF 127 (by decide)) (ci := 9) rfl (tm_mkX10 (by decide) _)) rfl hl.1 (lv_room (Nat.le_of_ble_eq_true rfl)) dX10_day_21 ⟨Nat.zero_le _, Nat.zero_le _⟩) hS (fun H locs hP hS => ?_)
    exact tm_iret C0 (Option.some.inj h) hP hS dX10_day_24
  · rw [if_pos c3] at h
    refine lv_bipush (v := (-5)) hx hb dX10_day_12 (by decide) ?_
    exact tm_iret C0 (Option.some.inj h) hP hS dX10_day_14
/-! X10_doKiss -/
theorem nX10_doKiss_X10 : ∀ w ∈ wsX100, w ∈ wsX10_doKiss := by decide +kernel
theorem kX10_doKiss_0 : Cond.fieldLink RX10 22 "QuarrelDeskModel" "row" "[I" ∈ wsX10_doKiss := by decide +kernel
def f_X10_doKiss (M : tm_M) (p1 : Int32) (p2 : Int32) : Option tm_M :=
  (tm_rd M 132 672 ((p1 + 7) + p2)).bind fun x1 =>
  (tm_wr M 132 672 ((p1 + 7) + p2) (x1 / 2)).bind fun M3 =>
  (tm_wr M3 132 672 ((p1 + 13) + p2) 0).bind fun M5 =>
  (tm_rd M5 132 672 (p1 + 19)).bind fun x7 =>
  (tm_wr M5 132 672 (p1 + 19) (x7 &&& ((1 <<< (p2 &&& 31)) ^^^ (-1)))).bind fun M9 =>
  some M9
set_option maxHeartbeats 4000000 in
set_option maxRecDepth 100000 in
theorem c_X10_doKiss (l : Launch) (g : tm_G) (A : Nat → Prop) (L : List Nat) (hD : ∀ M, va_D A (tm_ws g L M)) (hF : ∀ o, tm_all o → o ∈ L) (M : tm_M) (p1 : Int32) (p2 : Int32) (M0 : tm_M) (h : f_X10_doKiss M p1 p2 = some M0) : Met l yX10_doKiss wsX10_doKiss { frames := 0, cells := 0, slots := 0, locals := 0 } (tm_PC g A L M [.ref (g.2.2 + 127), .int p1, .int p2]) (tm_QV g A L M0) 0 0 A := by
  refine tm_start (cc := cX10_doKiss) (nL := 3) (ret := none) (F := tm_all) (plainFor_of_name (by decide)) rfl (Nat.le_of_ble_eq_true rfl) hD hF (fun p e s m args below meth c ls C0 hP hS hl => ?_)
  have hl : lv_has ls 3 [(0, .ref (g.2.2 + 127)), (1, .int p1), (2, .int p2)] := hl
  have C0 : tm_C p m c cX10_doKiss 3 s args wsX10_doKiss RX10 meth none g A L tm_all := C0
  obtain ⟨⟨hx, hb, hml, hown, hts⟩, hr, hlk, hK, hD, hG, hF⟩ := id C0
  unfold f_X10_doKiss at h
  refine lv_aload_n hx hb dX10_doKiss_0 rfl (lv_at hl 0 rfl) ?_
  refine tm_get (C := RX10) (T := TX10) (N := 23) (v := .ref (g.2.2 + 132)) hx hb hts nX10_doKiss_X10 hown hK hP (hF 127 (by decide)) (tm_mkX10 (by decide) _) rfl 4 (by decide) (hts _ kX10_doKiss_0) rfl dX10_doKiss_1 ?_
  refine lv_iload_n hx hb dX10_doKiss_4 rfl (lv_at hl 1 rfl) ?_
  refine lv_bipush (v := 7) hx hb dX10_doKiss_5 (by decide) ?_
  refine lv_iadd hx hb dX10_doKiss_7 ?_
  refine lv_iload_n hx hb dX10_doKiss_8 rfl (lv_at hl 2 rfl) ?_
  refine lv_iadd hx hb dX10_doKiss_9 ?_
  refine lv_dup2_11 hx hb dX10_doKiss_10 rfl rfl ?_
  obtain ⟨x1, e2, h⟩ := tm_bd_some h
  refine tm_iald hx hb hK hP (hF 132 (by decide)) (tm_mkI (n := 672) (by decide) (by decide)) e2 dX10_doKiss_11 ?_
  refine lv_iconst (v := 2) hx hb dX10_doKiss_12 (by decide) ?_
  refine lv_idiv hx hb dX10_doKiss_13 (by decide) ?_
  obtain ⟨M3, e4, h⟩ := tm_bd_some h
  refine tm_iast hx hb hK hP hD hS (hF 132 (by decide)) (tm_mkI (n := 672) (by decide) (by decide)) e4 dX10_doKiss_14 (fun H locs hP hS => ?_)
  refine lv_aload_n hx hb dX10_doKiss_15 rfl (lv_at hl 0 rfl) ?_
  refine tm_get (C := RX10) (T := TX10) (N := 23) (v := .ref (g.2.2 + 132)) hx hb hts nX10_doKiss_X10 hown hK hP (hF 127 (by decide)) (tm_mkX10 (by decide) _) rfl 4 (by decide) (hts _ kX10_doKiss_0) rfl dX10_doKiss_16 ?_
  refine lv_iload_n hx hb dX10_doKiss_19 rfl (lv_at hl 1 rfl) ?_
  refine lv_bipush (v := 13) hx hb dX10_doKiss_20 (by decide) ?_
  refine lv_iadd hx hb dX10_doKiss_22 ?_
  refine lv_iload_n hx hb dX10_doKiss_23 rfl (lv_at hl 2 rfl) ?_
  refine lv_iadd hx hb dX10_doKiss_24 ?_
  refine lv_iconst (v := 0) hx hb dX10_doKiss_25 (by decide) ?_
  obtain ⟨M5, e6, h⟩ := tm_bd_some h
  refine tm_iast hx hb hK hP hD hS (hF 132 (by decide)) (tm_mkI (n := 672) (by decide) (by decide)) e6 dX10_doKiss_26 (fun H locs hP hS => ?_)
  refine lv_aload_n hx hb dX10_doKiss_27 rfl (lv_at hl 0 rfl) ?_
  refine tm_get (C := RX10) (T := TX10) (N := 23) (v := .ref (g.2.2 + 132)) hx hb hts nX10_doKiss_X10 hown hK hP (hF 127 (by decide)) (tm_mkX10 (by decide) _) rfl 4 (by decide) (hts _ kX10_doKiss_0) rfl dX10_doKiss_28 ?_
  refine lv_iload_n hx hb dX10_doKiss_31 rfl (lv_at hl 1 rfl) ?_
  refine lv_bipush (v := 19) hx hb dX10_doKiss_32 (by decide) ?_
  refine lv_iadd hx hb dX10_doKiss_34 ?_
  refine lv_dup2_11 hx hb dX10_doKiss_35 rfl rfl ?_
  obtain ⟨x7, e8, h⟩ := tm_bd_some h
  refine tm_iald hx hb hK hP (hF 132 (by decide)) (tm_mkI (n := 672) (by decide) (by decide)) e8 dX10_doKiss_36 ?_
  refine lv_iconst (v := 1) hx hb dX10_doKiss_37 (by decide) ?_
  refine lv_iload_n hx hb dX10_doKiss_38 rfl (lv_at hl 2 rfl) ?_
  refine lv_ishl hx hb dX10_doKiss_39 ?_
  refine lv_iconst (v := (-1)) hx hb dX10_doKiss_40 (by decide) ?_
  refine lv_ixor hx hb dX10_doKiss_41 ?_
  refine lv_iand hx hb dX10_doKiss_42 ?_
  obtain ⟨M9, e10, h⟩ := tm_bd_some h
  refine tm_iast hx hb hK hP hD hS (hF 132 (by decide)) (tm_mkI (n := 672) (by decide) (by decide)) e10 dX10_doKiss_43 (fun H locs hP hS => ?_)
  exact tm_vret C0 (Option.some.inj h) hP hS dX10_doKiss_44
/-! X10_kiss -/
theorem nX10_kiss_X10 : ∀ w ∈ wsX100, w ∈ wsX10_kiss := by decide +kernel
theorem kX10_kiss_0 : Cond.fieldLink RX10 22 "QuarrelDeskModel" "row" "[I" ∈ wsX10_kiss := by decide +kernel
def f_X10_kiss (M : tm_M) (p1 : Int32) : Option (Int32 × tm_M) :=
  (f_X10_isCouple M p1).bind fun r1 =>
  if r1 = 0 then
    some ((-2), M)
  else
    (f_X10_keepPast M).bind fun M6 =>
    (f_X10_doKiss M6 0 p1).bind fun M9 =>
    (tm_rd M9 132 672 (7 + p1)).bind fun x10 =>
    some (x10, M9)
set_option maxHeartbeats 4000000 in
set_option maxRecDepth 100000 in
theorem c_X10_kiss (l : Launch) (g : tm_G) (A : Nat → Prop) (L : List Nat) (hD : ∀ M, va_D A (tm_ws g L M)) (hF : ∀ o, tm_all o → o ∈ L) (M : tm_M) (p1 : Int32) (R0 : Int32 × tm_M) (h : f_X10_kiss M p1 = some R0) : Met l yX10_kiss wsX10_kiss { frames := 2, cells := 0, slots := 0, locals := 44 } (tm_PC g A L M [.ref (g.2.2 + 127), .int p1]) (tm_QI g A L R0) 0 0 A := by
  refine tm_start (cc := cX10_kiss) (nL := 2) (ret := (some .int)) (F := tm_all) (plainFor_of_name (by decide)) rfl (Nat.le_of_ble_eq_true rfl) hD hF (fun p e s m args below meth c ls C0 hP hS hl => ?_)
  have hl : lv_has ls 2 [(0, .ref (g.2.2 + 127)), (1, .int p1)] := hl
  have C0 : tm_C p m c cX10_kiss 2 s args wsX10_kiss RX10 meth (some .int) g A L tm_all := C0
  obtain ⟨⟨hx, hb, hml, hown, hts⟩, hr, hlk, hK, hD, hG, hF⟩ := id C0
  unfold f_X10_kiss at h
  refine lv_aload_n hx hb dX10_kiss_0 rfl (lv_at hl 0 rfl) ?_
  refine lv_iload_n hx hb dX10_kiss_1 rfl (lv_at hl 1 rfl) ?_
  obtain ⟨r1, e2, h⟩ := tm_bd_some h
  refine tm_backI (r0 := r1) (M0 := M) (fun _ q => q) (tm_callV (As := [.int p1]) (rest := []) ⟨hx, hb, hml, hown, hts⟩ hK hG hP hS (c_X10_isCouple l g A L hD hF M p1 r1 e2) (cwV 1 hts gX10_kiss_X10_isCouple rfl rfl rfl (by decide +kernel) ⟨Nat.le_of_ble_eq_true rfl, Nat.le_of_ble_eq_true rfl⟩) (tm_recv hK hP (hF 127 (by decide)) (ci := 9) rfl (tm_mkX10 (by decide) _)) rfl hl.1 (lv_room (Nat.le_of_ble_eq_true rfl)) dX10_kiss_2 ⟨Nat.zero_le _, Nat.zero_le _⟩) hS (fun H locs hP hS => ?_)
  refine lv_if_ne (tgt := 11) hx hb dX10_kiss_5 (by decide) (fun c3 => ?_) (fun c3 => ?_)
  · rw [if_neg c3] at h
    refine lv_aload_n hx hb dX10_kiss_11 rfl (lv_at hl 0 rfl) ?_
    obtain ⟨M6, e5, h⟩ := tm_bd_some h
    refine tm_backV (M0 := M6) (fun _ q => q) (tm_callV (As := []) (rest := []) ⟨hx, hb, hml, hown, hts⟩ hK hG hP hS (c_X10_keepPast l g A L hD hF M M6 e5) (cwV 0 hts gX10_kiss_X10_keepPast rfl rfl rfl (by decide +kernel) ⟨Nat.le_of_ble_eq_true rfl, Nat.le_of_ble_eq_true rfl⟩) (tm_recv hK hP (hF 127 (by decide)) (ci := 9) rfl (tm_mkX10 (by decide) _)) rfl hl.1 (lv_room (Nat.le_of_ble_eq_true rfl)) dX10_kiss_12 ⟨Nat.zero_le _, Nat.zero_le _⟩) hS (fun H locs hP hS => ?_)
    refine lv_aload_n hx hb dX10_kiss_15 rfl (lv_at hl 0 rfl) ?_
    refine lv_iconst (v := 0) hx hb dX10_kiss_16 (by decide) ?_
    refine lv_iload_n hx hb dX10_kiss_17 rfl (lv_at hl 1 rfl) ?_
    obtain ⟨M9, e8, h⟩ := tm_bd_some h
    refine tm_backV (M0 := M9) (fun _ q => q) (tm_callV (As := [.int 0, .int p1]) (rest := []) ⟨hx, hb, hml, hown, hts⟩ hK hG hP hS (c_X10_doKiss l g A L hD hF M6 0 p1 M9 e8) (cwV 2 hts gX10_kiss_X10_doKiss rfl rfl rfl (by decide +kernel) ⟨Nat.le_of_ble_eq_true rfl, Nat.le_of_ble_eq_true rfl⟩) (tm_recv hK hP (hF 127 (by decide)) (ci := 9) rfl (tm_mkX10 (by decide) _)) rfl hl.1 (lv_room (Nat.le_of_ble_eq_true rfl)) dX10_kiss_18 ⟨Nat.zero_le _, Nat.zero_le _⟩) hS (fun H locs hP hS => ?_)
    refine lv_aload_n hx hb dX10_kiss_21 rfl (lv_at hl 0 rfl) ?_
    refine tm_get (C := RX10) (T := TX10) (N := 23) (v := .ref (g.2.2 + 132)) hx hb hts nX10_kiss_X10 hown hK hP (hF 127 (by decide)) (tm_mkX10 (by decide) _) rfl 4 (by decide) (hts _ kX10_kiss_0) rfl dX10_kiss_22 ?_
    refine lv_bipush (v := 7) hx hb dX10_kiss_25 (by decide) ?_
    refine lv_iload_n hx hb dX10_kiss_27 rfl (lv_at hl 1 rfl) ?_
    refine lv_iadd hx hb dX10_kiss_28 ?_
    obtain ⟨x10, e11, h⟩ := tm_bd_some h
    refine tm_iald hx hb hK hP (hF 132 (by decide)) (tm_mkI (n := 672) (by decide) (by decide)) e11 dX10_kiss_29 ?_
    exact tm_iret C0 (Option.some.inj h) hP hS dX10_kiss_30
  · rw [if_pos c3] at h
    refine lv_bipush (v := (-2)) hx hb dX10_kiss_8 (by decide) ?_
    exact tm_iret C0 (Option.some.inj h) hP hS dX10_kiss_10
/-! X10_mother -/
theorem nX10_mother_X10 : ∀ w ∈ wsX100, w ∈ wsX10_mother := by decide +kernel
theorem kX10_mother_0 : Cond.fieldLink RX10 22 "QuarrelDeskModel" "row" "[I" ∈ wsX10_mother := by decide +kernel
def f_X10_mother (M : tm_M) (p1 : Int32) : Option (Int32 × tm_M) :=
  (f_X10_isCouple M p1).bind fun r1 =>
  if r1 = 0 then
    some ((-2), M)
  else
    (f_X10_keepPast M).bind fun M6 =>
    (f_X10_strainMore M6 0 p1 10).bind fun M9 =>
    (tm_rd M9 132 672 (7 + p1)).bind fun x10 =>
    some (x10, M9)
set_option maxHeartbeats 4000000 in
set_option maxRecDepth 100000 in
theorem c_X10_mother (l : Launch) (g : tm_G) (A : Nat → Prop) (L : List Nat) (hD : ∀ M, va_D A (tm_ws g L M)) (hF : ∀ o, tm_all o → o ∈ L) (M : tm_M) (p1 : Int32) (R0 : Int32 × tm_M) (h : f_X10_mother M p1 = some R0) : Met l yX10_mother wsX10_mother { frames := 2, cells := 0, slots := 0, locals := 44 } (tm_PC g A L M [.ref (g.2.2 + 127), .int p1]) (tm_QI g A L R0) 0 0 A := by
  refine tm_start (cc := cX10_mother) (nL := 2) (ret := (some .int)) (F := tm_all) (plainFor_of_name (by decide)) rfl (Nat.le_of_ble_eq_true rfl) hD hF (fun p e s m args below meth c ls C0 hP hS hl => ?_)
  have hl : lv_has ls 2 [(0, .ref (g.2.2 + 127)), (1, .int p1)] := hl
  have C0 : tm_C p m c cX10_mother 2 s args wsX10_mother RX10 meth (some .int) g A L tm_all := C0
  obtain ⟨⟨hx, hb, hml, hown, hts⟩, hr, hlk, hK, hD, hG, hF⟩ := id C0
  unfold f_X10_mother at h
  refine lv_aload_n hx hb dX10_mother_0 rfl (lv_at hl 0 rfl) ?_
  refine lv_iload_n hx hb dX10_mother_1 rfl (lv_at hl 1 rfl) ?_
  obtain ⟨r1, e2, h⟩ := tm_bd_some h
  refine tm_backI (r0 := r1) (M0 := M) (fun _ q => q) (tm_callV (As := [.int p1]) (rest := []) ⟨hx, hb, hml, hown, hts⟩ hK hG hP hS (c_X10_isCouple l g A L hD hF M p1 r1 e2) (cwV 1 hts gX10_mother_X10_isCouple rfl rfl rfl (by decide +kernel) ⟨Nat.le_of_ble_eq_true rfl, Nat.le_of_ble_eq_true rfl⟩) (tm_recv hK hP (hF 127 (by decide)) (ci := 9) rfl (tm_mkX10 (by decide) _)) rfl hl.1 (lv_room (Nat.le_of_ble_eq_true rfl)) dX10_mother_2 ⟨Nat.zero_le _, Nat.zero_le _⟩) hS (fun H locs hP hS => ?_)
  refine lv_if_ne (tgt := 11) hx hb dX10_mother_5 (by decide) (fun c3 => ?_) (fun c3 => ?_)
  · rw [if_neg c3] at h
    refine lv_aload_n hx hb dX10_mother_11 rfl (lv_at hl 0 rfl) ?_
    obtain ⟨M6, e5, h⟩ := tm_bd_some h
    refine tm_backV (M0 := M6) (fun _ q => q) (tm_callV (As := []) (rest := []) ⟨hx, hb, hml, hown, hts⟩ hK hG hP hS (c_X10_keepPast l g A L hD hF M M6 e5) (cwV 0 hts gX10_mother_X10_keepPast rfl rfl rfl (by decide +kernel) ⟨Nat.le_of_ble_eq_true rfl, Nat.le_of_ble_eq_true rfl⟩) (tm_recv hK hP (hF 127 (by decide)) (ci := 9) rfl (tm_mkX10 (by decide) _)) rfl hl.1 (lv_room (Nat.le_of_ble_eq_true rfl)) dX10_mother_12 ⟨Nat.zero_le _, Nat.zero_le _⟩) hS (fun H locs hP hS => ?_)
    refine lv_aload_n hx hb dX10_mother_15 rfl (lv_at hl 0 rfl) ?_
    refine lv_iconst (v := 0) hx hb dX10_mother_16 (by decide) ?_
    refine lv_iload_n hx hb dX10_mother_17 rfl (lv_at hl 1 rfl) ?_
    refine lv_bipush (v := 10) hx hb dX10_mother_18 (by decide) ?_
    obtain ⟨M9, e8, h⟩ := tm_bd_some h
    refine tm_backV (M0 := M9) (fun _ q => q) (tm_callV (As := [.int 0, .int p1, .int 10]) (rest := []) ⟨hx, hb, hml, hown, hts⟩ hK hG hP hS (c_X10_strainMore l g A L hD hF M6 0 p1 10 M9 e8) (cwV 3 hts gX10_mother_X10_strainMore rfl rfl rfl (by decide +kernel) ⟨Nat.le_of_ble_eq_true rfl, Nat.le_of_ble_eq_true rfl⟩) (tm_recv hK hP (hF 127 (by decide)) (ci := 9) rfl (tm_mkX10 (by decide) _)) rfl hl.1 (lv_room (Nat.le_of_ble_eq_true rfl)) dX10_mother_20 ⟨Nat.zero_le _, Nat.zero_le _⟩) hS (fun H locs hP hS => ?_)
    refine lv_aload_n hx hb dX10_mother_23 rfl (lv_at hl 0 rfl) ?_
    refine tm_get (C := RX10) (T := TX10) (N := 23) (v := .ref (g.2.2 + 132)) hx hb hts nX10_mother_X10 hown hK hP (hF 127 (by decide)) (tm_mkX10 (by decide) _) rfl 4 (by decide) (hts _ kX10_mother_0) rfl dX10_mother_24 ?_
    refine lv_bipush (v := 7) hx hb dX10_mother_27 (by decide) ?_
    refine lv_iload_n hx hb dX10_mother_29 rfl (lv_at hl 1 rfl) ?_
    refine lv_iadd hx hb dX10_mother_30 ?_
    obtain ⟨x10, e11, h⟩ := tm_bd_some h
    refine tm_iald hx hb hK hP (hF 132 (by decide)) (tm_mkI (n := 672) (by decide) (by decide)) e11 dX10_mother_31 ?_
    exact tm_iret C0 (Option.some.inj h) hP hS dX10_mother_32
  · rw [if_pos c3] at h
    refine lv_bipush (v := (-2)) hx hb dX10_mother_8 (by decide) ?_
    exact tm_iret C0 (Option.some.inj h) hP hS dX10_mother_10
/-! X10_change -/
theorem nX10_change_X10 : ∀ w ∈ wsX100, w ∈ wsX10_change := by decide +kernel
theorem kX10_change_0 : Cond.fieldLink RX10 16 "QuarrelDeskModel" "leasts" "[I" ∈ wsX10_change := by decide +kernel
theorem kX10_change_1 : Cond.fieldLink RX10 19 "QuarrelDeskModel" "mosts" "[I" ∈ wsX10_change := by decide +kernel
theorem kX10_change_2 : Cond.fieldLink RX10 22 "QuarrelDeskModel" "row" "[I" ∈ wsX10_change := by decide +kernel
def f_X10_change (M : tm_M) (p1 : Int32) (p2 : Int32) : Option (Int32 × tm_M) :=
  (f_X10_in p1 0 5).bind fun r1 =>
  if r1 = 0 then
    some ((-3), M)
  else
    (tm_rd M 130 6 p1).bind fun x4 =>
    (tm_rd M 131 6 p1).bind fun x6 =>
    (f_X10_in p2 x4 x6).bind fun r8 =>
    if r8 = 0 then
      some ((-3), M)
    else
      (f_X10_keepPast M).bind fun M13 =>
      (tm_rd M13 132 672 (1 + p1)).bind fun x14 =>
      (tm_wr M13 132 672 (1 + p1) p2).bind fun M16 =>
      some (x14, M16)
set_option maxHeartbeats 4000000 in
set_option maxRecDepth 100000 in
theorem c_X10_change (l : Launch) (g : tm_G) (A : Nat → Prop) (L : List Nat) (hD : ∀ M, va_D A (tm_ws g L M)) (hF : ∀ o, tm_all o → o ∈ L) (M : tm_M) (p1 : Int32) (p2 : Int32) (R0 : Int32 × tm_M) (h : f_X10_change M p1 p2 = some R0) : Met l yX10_change wsX10_change { frames := 2, cells := 0, slots := 0, locals := 44 } (tm_PC g A L M [.ref (g.2.2 + 127), .int p1, .int p2]) (tm_QI g A L R0) 0 0 A := by
  refine tm_start (cc := cX10_change) (nL := 4) (ret := (some .int)) (F := tm_all) (plainFor_of_name (by decide)) rfl (Nat.le_of_ble_eq_true rfl) hD hF (fun p e s m args below meth c ls C0 hP hS hl => ?_)
  have hl : lv_has ls 4 [(0, .ref (g.2.2 + 127)), (1, .int p1), (2, .int p2)] := hl
  have C0 : tm_C p m c cX10_change 4 s args wsX10_change RX10 meth (some .int) g A L tm_all := C0
  obtain ⟨⟨hx, hb, hml, hown, hts⟩, hr, hlk, hK, hD, hG, hF⟩ := id C0
  unfold f_X10_change at h
  refine lv_iload_n hx hb dX10_change_0 rfl (lv_at hl 1 rfl) ?_
  refine lv_iconst (v := 0) hx hb dX10_change_1 (by decide) ?_
  refine lv_iconst (v := 5) hx hb dX10_change_2 (by decide) ?_
  obtain ⟨r1, e2, h⟩ := tm_bd_some h
  refine tm_backI (r0 := r1) (M0 := M) (fun _ q => q) (tm_callS (As := [.int p1, .int 0, .int 5]) (rest := []) ⟨hx, hb, hml, hown, hts⟩ hK hG hP hS (c_X10_in l g A L hD hF M p1 0 5 r1 e2) (va_cwS 3 hts gX10_change_X10_in rfl rfl rfl (by decide +kernel) ⟨Nat.le_of_ble_eq_true rfl, Nat.le_of_ble_eq_true rfl⟩) rfl hl.1 (lv_room (Nat.le_of_ble_eq_true rfl)) dX10_change_3 ⟨Nat.zero_le _, Nat.zero_le _⟩) hS (fun H locs hP hS => ?_)
  refine lv_if_eq (tgt := 28) hx hb dX10_change_6 (by decide) (fun c3 => ?_) (fun c3 => ?_)
  · rw [if_pos c3] at h
    refine lv_bipush (v := (-3)) hx hb dX10_change_28 (by decide) ?_
    exact tm_iret C0 (Option.some.inj h) hP hS dX10_change_30
  · rw [if_neg c3] at h
    refine lv_iload_n hx hb dX10_change_9 rfl (lv_at hl 2 rfl) ?_
    refine lv_aload_n hx hb dX10_change_10 rfl (lv_at hl 0 rfl) ?_
    refine tm_get (C := RX10) (T := TX10) (N := 23) (v := .ref (g.2.2 + 130)) hx hb hts nX10_change_X10 hown hK hP (hF 127 (by decide)) (tm_mkX10 (by decide) _) rfl 2 (by decide) (hts _ kX10_change_0) rfl dX10_change_11 ?_
    refine lv_iload_n hx hb dX10_change_14 rfl (lv_at hl 1 rfl) ?_
    obtain ⟨x4, e5, h⟩ := tm_bd_some h
    refine tm_iald hx hb hK hP (hF 130 (by decide)) (tm_mkI (n := 6) (by decide) (by decide)) e5 dX10_change_15 ?_
    refine lv_aload_n hx hb dX10_change_16 rfl (lv_at hl 0 rfl) ?_
    refine tm_get (C := RX10) (T := TX10) (N := 23) (v := .ref (g.2.2 + 131)) hx hb hts nX10_change_X10 hown hK hP (hF 127 (by decide)) (tm_mkX10 (by decide) _) rfl 3 (by decide) (hts _ kX10_change_1) rfl dX10_change_17 ?_
    refine lv_iload_n hx hb dX10_change_20 rfl (lv_at hl 1 rfl) ?_
    obtain ⟨x6, e7, h⟩ := tm_bd_some h
    refine tm_iald hx hb hK hP (hF 131 (by decide)) (tm_mkI (n := 6) (by decide) (by decide)) e7 dX10_change_21 ?_
    obtain ⟨r8, e9, h⟩ := tm_bd_some h
    refine tm_backI (r0 := r8) (M0 := M) (fun _ q => q) (tm_callS (As := [.int p2, .int x4, .int x6]) (rest := []) ⟨hx, hb, hml, hown, hts⟩ hK hG hP hS (c_X10_in l g A L hD hF M p2 x4 x6 r8 e9) (va_cwS 3 hts gX10_change_X10_in rfl rfl rfl (by decide +kernel) ⟨Nat.le_of_ble_eq_true rfl, Nat.le_of_ble_eq_true rfl⟩) rfl hl.1 (lv_room (Nat.le_of_ble_eq_true rfl)) dX10_change_22 ⟨Nat.zero_le _, Nat.zero_le _⟩) hS (fun H locs hP hS => ?_)
    refine lv_if_ne (tgt := 31) hx hb dX10_change_25 (by decide) (fun c10 => ?_) (fun c10 => ?_)
    · rw [if_neg c10] at h
      refine lv_aload_n hx hb dX10_change_31 rfl (lv_at hl 0 rfl) ?_
      obtain ⟨M13, e12, h⟩ := tm_bd_some h
      refine tm_backV (M0 := M13) (fun _ q => q) (tm_callV (As := []) (rest := []) ⟨hx, hb, hml, hown, hts⟩ hK hG hP hS (c_X10_keepPast l g A L hD hF M M13 e12) (cwV 0 hts gX10_change_X10_keepPast rfl rfl rfl (by decide +kernel) ⟨Nat.le_of_ble_eq_true rfl, Nat.le_of_ble_eq_true rfl⟩) (tm_recv hK hP (hF 127 (by decide)) (ci := 9) rfl (tm_mkX10 (by decide) _)) rfl hl.1 (lv_room (Nat.le_of_ble_eq_true rfl)) dX10_change_32 ⟨Nat.zero_le _, Nat.zero_le _⟩) hS (fun H locs hP hS => ?_)
      refine lv_aload_n hx hb dX10_change_35 rfl (lv_at hl 0 rfl) ?_
      refine tm_get (C := RX10) (T := TX10) (N := 23) (v := .ref (g.2.2 + 132)) hx hb hts nX10_change_X10 hown hK hP (hF 127 (by decide)) (tm_mkX10 (by decide) _) rfl 4 (by decide) (hts _ kX10_change_2) rfl dX10_change_36 ?_
      refine lv_iconst (v := 1) hx hb dX10_change_39 (by decide) ?_
      refine lv_iload_n hx hb dX10_change_40 rfl (lv_at hl 1 rfl) ?_
      refine lv_iadd hx hb dX10_change_41 ?_
      obtain ⟨x14, e15, h⟩ := tm_bd_some h
      refine tm_iald hx hb hK hP (hF 132 (by decide)) (tm_mkI (n := 672) (by decide) (by decide)) e15 dX10_change_42 ?_
      refine lv_istore_n (lv' := [(3, .int x14), (0, .ref (g.2.2 + 127)), (1, .int p1), (2, .int p2)]) hx hb dX10_change_43 rfl hl (by decide) rfl (fun ls hl => ?_)
      refine lv_aload_n hx hb dX10_change_44 rfl (lv_at hl 1 rfl) ?_
      refine tm_get (C := RX10) (T := TX10) (N := 23) (v := .ref (g.2.2 + 132)) hx hb hts nX10_change_X10 hown hK hP (hF 127 (by decide)) (tm_mkX10 (by decide) _) rfl 4 (by decide) (hts _ kX10_change_2) rfl dX10_change_45 ?_
      refine lv_iconst (v := 1) hx hb dX10_change_48 (by decide) ?_
      refine lv_iload_n hx hb dX10_change_49 rfl (lv_at hl 2 rfl) ?_
      refine lv_iadd hx hb dX10_change_50 ?_
      refine lv_iload_n hx hb dX10_change_51 rfl (lv_at hl 3 rfl) ?_
      obtain ⟨M16, e17, h⟩ := tm_bd_some h
      refine tm_iast hx hb hK hP hD hS (hF 132 (by decide)) (tm_mkI (n := 672) (by decide) (by decide)) e17 dX10_change_52 (fun H locs hP hS => ?_)
      refine lv_iload_n hx hb dX10_change_53 rfl (lv_at hl 0 rfl) ?_
      exact tm_iret C0 (Option.some.inj h) hP hS dX10_change_54
    · rw [if_pos c10] at h
      refine lv_bipush (v := (-3)) hx hb dX10_change_28 (by decide) ?_
      exact tm_iret C0 (Option.some.inj h) hP hS dX10_change_30
/-! X10_undo -/
theorem nX10_undo_X10 : ∀ w ∈ wsX100, w ∈ wsX10_undo := by decide +kernel
theorem kX10_undo_0 : Cond.fieldLink RX10 63 "QuarrelDeskModel" "undos" "I" ∈ wsX10_undo := by decide +kernel
def f_X10_undo (M : tm_M) : Option (Int32 × tm_M) :=
  if (M 127 5) = 0 then
    some ((-4), M)
  else
    (some (tm_st M 127 5 ((M 127 5) - 1))).bind fun M2 =>
    (f_X10_copyDesk M2 (56 + (56 * (M2 127 5))) 0).bind fun M6 =>
    some (M6 127 5, M6)
set_option maxHeartbeats 4000000 in
set_option maxRecDepth 100000 in
theorem c_X10_undo (l : Launch) (g : tm_G) (A : Nat → Prop) (L : List Nat) (hD : ∀ M, va_D A (tm_ws g L M)) (hF : ∀ o, tm_all o → o ∈ L) (M : tm_M) (R0 : Int32 × tm_M) (h : f_X10_undo M = some R0) : Met l yX10_undo wsX10_undo { frames := 1, cells := 0, slots := 0, locals := 23 } (tm_PC g A L M [.ref (g.2.2 + 127)]) (tm_QI g A L R0) 0 0 A := by
  refine tm_start (cc := cX10_undo) (nL := 1) (ret := (some .int)) (F := tm_all) (plainFor_of_name (by decide)) rfl (Nat.le_of_ble_eq_true rfl) hD hF (fun p e s m args below meth c ls C0 hP hS hl => ?_)
  have hl : lv_has ls 1 [(0, .ref (g.2.2 + 127))] := hl
  have C0 : tm_C p m c cX10_undo 1 s args wsX10_undo RX10 meth (some .int) g A L tm_all := C0
  obtain ⟨⟨hx, hb, hml, hown, hts⟩, hr, hlk, hK, hD, hG, hF⟩ := id C0
  unfold f_X10_undo at h
  refine lv_aload_n hx hb dX10_undo_0 rfl (lv_at hl 0 rfl) ?_
  refine tm_get (C := RX10) (T := TX10) (N := 23) (v := .int (M 127 5)) hx hb hts nX10_undo_X10 hown hK hP (hF 127 (by decide)) (tm_mkX10 (by decide) _) rfl 5 (by decide) (hts _ kX10_undo_0) rfl dX10_undo_1 ?_
  refine lv_if_ne (tgt := 10) hx hb dX10_undo_4 (by decide) (fun c1 => ?_) (fun c1 => ?_)
  · rw [if_neg c1] at h
    refine lv_aload_n hx hb dX10_undo_10 rfl (lv_at hl 0 rfl) ?_
    refine lv_dup hx hb dX10_undo_11 rfl ?_
    refine tm_get (C := RX10) (T := TX10) (N := 23) (v := .int (M 127 5)) hx hb hts nX10_undo_X10 hown hK hP (hF 127 (by decide)) (tm_mkX10 (by decide) _) rfl 5 (by decide) (hts _ kX10_undo_0) rfl dX10_undo_12 ?_
    refine lv_iconst (v := 1) hx hb dX10_undo_15 (by decide) ?_
    refine lv_isub hx hb dX10_undo_16 ?_
    obtain ⟨M2, e3, h⟩ := tm_bd_some h
    refine tm_put (C := RX10) (T := TX10) (N := 23) (ty := .int) (x := (M 127 5) - 1) hx hb hts nX10_undo_X10 tyX10 tyX10_ok nmX10 hown hK hP hD hS (hF 127 (by decide)) (tm_mkX10 (by decide)) rfl 5 (by decide) (hts _ kX10_undo_0) rfl (by decide +kernel) rfl rfl (Nat.le_of_ble_eq_true rfl) rfl (Option.some.inj e3) dX10_undo_17 (fun H locs hP hS => ?_)
    refine lv_aload_n hx hb dX10_undo_20 rfl (lv_at hl 0 rfl) ?_
    refine lv_bipush (v := 56) hx hb dX10_undo_21 (by decide) ?_
    refine lv_bipush (v := 56) hx hb dX10_undo_23 (by decide) ?_
    refine lv_aload_n hx hb dX10_undo_25 rfl (lv_at hl 0 rfl) ?_
    refine tm_get (C := RX10) (T := TX10) (N := 23) (v := .int (M2 127 5)) hx hb hts nX10_undo_X10 hown hK hP (hF 127 (by decide)) (tm_mkX10 (by decide) _) rfl 5 (by decide) (hts _ kX10_undo_0) rfl dX10_undo_26 ?_
    refine lv_imul hx hb dX10_undo_29 ?_
    refine lv_iadd hx hb dX10_undo_30 ?_
    refine lv_iconst (v := 0) hx hb dX10_undo_31 (by decide) ?_
    obtain ⟨M6, e5, h⟩ := tm_bd_some h
    refine tm_backV (M0 := M6) (fun _ q => q) (tm_callV (As := [.int (56 + (56 * (M2 127 5))), .int 0]) (rest := []) ⟨hx, hb, hml, hown, hts⟩ hK hG hP hS (c_X10_copyDesk l g A L hD hF M2 (56 + (56 * (M2 127 5))) 0 M6 e5) (cwV 2 hts gX10_undo_X10_copyDesk rfl rfl rfl (by decide +kernel) ⟨Nat.le_of_ble_eq_true rfl, Nat.le_of_ble_eq_true rfl⟩) (tm_recv hK hP (hF 127 (by decide)) (ci := 9) rfl (tm_mkX10 (by decide) _)) rfl hl.1 (lv_room (Nat.le_of_ble_eq_true rfl)) dX10_undo_32 ⟨Nat.zero_le _, Nat.zero_le _⟩) hS (fun H locs hP hS => ?_)
    refine lv_aload_n hx hb dX10_undo_35 rfl (lv_at hl 0 rfl) ?_
    refine tm_get (C := RX10) (T := TX10) (N := 23) (v := .int (M6 127 5)) hx hb hts nX10_undo_X10 hown hK hP (hF 127 (by decide)) (tm_mkX10 (by decide) _) rfl 5 (by decide) (hts _ kX10_undo_0) rfl dX10_undo_36 ?_
    exact tm_iret C0 (Option.some.inj h) hP hS dX10_undo_39
  · rw [if_pos c1] at h
    refine lv_bipush (v := (-4)) hx hb dX10_undo_7 (by decide) ?_
    exact tm_iret C0 (Option.some.inj h) hP hS dX10_undo_9
/-! X10_keep -/
theorem nX10_keep_X10 : ∀ w ∈ wsX100, w ∈ wsX10_keep := by decide +kernel
theorem kX10_keep_0 : Cond.fieldLink RX10 25 "QuarrelDeskModel" "isKept" "[Z" ∈ wsX10_keep := by decide +kernel
theorem kX10_keep_1 : Cond.fieldLink RX10 22 "QuarrelDeskModel" "row" "[I" ∈ wsX10_keep := by decide +kernel
def f_X10_keep (M : tm_M) (p1 : Int32) : Option (Int32 × tm_M) :=
  (f_X10_in p1 0 1).bind fun r1 =>
  if r1 = 0 then
    some ((-2), M)
  else
    (f_X10_copyDesk M 0 (504 + (56 * p1))).bind fun M6 =>
    (tm_wr M6 133 2 p1 1).bind fun M7 =>
    (tm_rd M7 132 672 0).bind fun x9 =>
    some (x9, M7)
set_option maxHeartbeats 4000000 in
set_option maxRecDepth 100000 in
theorem c_X10_keep (l : Launch) (g : tm_G) (A : Nat → Prop) (L : List Nat) (hD : ∀ M, va_D A (tm_ws g L M)) (hF : ∀ o, tm_all o → o ∈ L) (M : tm_M) (p1 : Int32) (R0 : Int32 × tm_M) (h : f_X10_keep M p1 = some R0) : Met l yX10_keep wsX10_keep { frames := 1, cells := 0, slots := 0, locals := 23 } (tm_PC g A L M [.ref (g.2.2 + 127), .int p1]) (tm_QI g A L R0) 0 0 A := by
  refine tm_start (cc := cX10_keep) (nL := 2) (ret := (some .int)) (F := tm_all) (plainFor_of_name (by decide)) rfl (Nat.le_of_ble_eq_true rfl) hD hF (fun p e s m args below meth c ls C0 hP hS hl => ?_)
  have hl : lv_has ls 2 [(0, .ref (g.2.2 + 127)), (1, .int p1)] := hl
  have C0 : tm_C p m c cX10_keep 2 s args wsX10_keep RX10 meth (some .int) g A L tm_all := C0
  obtain ⟨⟨hx, hb, hml, hown, hts⟩, hr, hlk, hK, hD, hG, hF⟩ := id C0
  unfold f_X10_keep at h
  refine lv_iload_n hx hb dX10_keep_0 rfl (lv_at hl 1 rfl) ?_
  refine lv_iconst (v := 0) hx hb dX10_keep_1 (by decide) ?_
  refine lv_iconst (v := 1) hx hb dX10_keep_2 (by decide) ?_
  obtain ⟨r1, e2, h⟩ := tm_bd_some h
  refine tm_backI (r0 := r1) (M0 := M) (fun _ q => q) (tm_callS (As := [.int p1, .int 0, .int 1]) (rest := []) ⟨hx, hb, hml, hown, hts⟩ hK hG hP hS (c_X10_in l g A L hD hF M p1 0 1 r1 e2) (va_cwS 3 hts gX10_keep_X10_in rfl rfl rfl (by decide +kernel) ⟨Nat.le_of_ble_eq_true rfl, Nat.le_of_ble_eq_true rfl⟩) rfl hl.1 (lv_room (Nat.le_of_ble_eq_true rfl)) dX10_keep_3 ⟨Nat.zero_le _, Nat.zero_le _⟩) hS (fun H locs hP hS => ?_)
  refine lv_if_ne (tgt := 12) hx hb dX10_keep_6 (by decide) (fun c3 => ?_) (fun c3 => ?_)
  · rw [if_neg c3] at h
    refine lv_aload_n hx hb dX10_keep_12 rfl (lv_at hl 0 rfl) ?_
    refine lv_iconst (v := 0) hx hb dX10_keep_13 (by decide) ?_
    refine lv_sipush (v := 504) hx hb dX10_keep_14 (by decide) ?_
    refine lv_bipush (v := 56) hx hb dX10_keep_17 (by decide) ?_
    refine lv_iload_n hx hb dX10_keep_19 rfl (lv_at hl 1 rfl) ?_
    refine lv_imul hx hb dX10_keep_20 ?_
    refine lv_iadd hx hb dX10_keep_21 ?_
    obtain ⟨M6, e5, h⟩ := tm_bd_some h
    refine tm_backV (M0 := M6) (fun _ q => q) (tm_callV (As := [.int 0, .int (504 + (56 * p1))]) (rest := []) ⟨hx, hb, hml, hown, hts⟩ hK hG hP hS (c_X10_copyDesk l g A L hD hF M 0 (504 + (56 * p1)) M6 e5) (cwV 2 hts gX10_keep_X10_copyDesk rfl rfl rfl (by decide +kernel) ⟨Nat.le_of_ble_eq_true rfl, Nat.le_of_ble_eq_true rfl⟩) (tm_recv hK hP (hF 127 (by decide)) (ci := 9) rfl (tm_mkX10 (by decide) _)) rfl hl.1 (lv_room (Nat.le_of_ble_eq_true rfl)) dX10_keep_22 ⟨Nat.zero_le _, Nat.zero_le _⟩) hS (fun H locs hP hS => ?_)
    refine lv_aload_n hx hb dX10_keep_25 rfl (lv_at hl 0 rfl) ?_
    refine tm_get (C := RX10) (T := TX10) (N := 23) (v := .ref (g.2.2 + 133)) hx hb hts nX10_keep_X10 hown hK hP (hF 127 (by decide)) (tm_mkX10 (by decide) _) rfl 6 (by decide) (hts _ kX10_keep_0) rfl dX10_keep_26 ?_
    refine lv_iload_n hx hb dX10_keep_29 rfl (lv_at hl 1 rfl) ?_
    refine lv_iconst (v := 1) hx hb dX10_keep_30 (by decide) ?_
    obtain ⟨M7, e8, h⟩ := tm_bd_some h
    refine tm_zast hx hb hK hP hD hS (hF 133 (by decide)) (tm_mkZ (n := 2) (by decide) (by decide)) (by unfold tm_isB; decide) e8 dX10_keep_31 (fun H locs hP hS => ?_)
    refine lv_aload_n hx hb dX10_keep_32 rfl (lv_at hl 0 rfl) ?_
    refine tm_get (C := RX10) (T := TX10) (N := 23) (v := .ref (g.2.2 + 132)) hx hb hts nX10_keep_X10 hown hK hP (hF 127 (by decide)) (tm_mkX10 (by decide) _) rfl 4 (by decide) (hts _ kX10_keep_1) rfl dX10_keep_33 ?_
    refine lv_iconst (v := 0) hx hb dX10_keep_36 (by decide) ?_
    obtain ⟨x9, e10, h⟩ := tm_bd_some h
    refine tm_iald hx hb hK hP (hF 132 (by decide)) (tm_mkI (n := 672) (by decide) (by decide)) e10 dX10_keep_37 ?_
    exact tm_iret C0 (Option.some.inj h) hP hS dX10_keep_38
  · rw [if_pos c3] at h
    refine lv_bipush (v := (-2)) hx hb dX10_keep_9 (by decide) ?_
    exact tm_iret C0 (Option.some.inj h) hP hS dX10_keep_11
/-! X10_back -/
theorem nX10_back_X10 : ∀ w ∈ wsX100, w ∈ wsX10_back := by decide +kernel
theorem kX10_back_0 : Cond.fieldLink RX10 25 "QuarrelDeskModel" "isKept" "[Z" ∈ wsX10_back := by decide +kernel
theorem kX10_back_1 : Cond.fieldLink RX10 63 "QuarrelDeskModel" "undos" "I" ∈ wsX10_back := by decide +kernel
theorem kX10_back_2 : Cond.fieldLink RX10 22 "QuarrelDeskModel" "row" "[I" ∈ wsX10_back := by decide +kernel
def f_X10_back (M : tm_M) (p1 : Int32) : Option (Int32 × tm_M) :=
  (f_X10_in p1 0 1).bind fun r1 =>
  if r1 = 0 then
    some ((-2), M)
  else
    (tm_rd M 133 2 p1).bind fun x4 =>
    if x4 = 0 then
      some ((-4), M)
    else
      (f_X10_copyDesk M (504 + (56 * p1)) 0).bind fun M9 =>
      (some (tm_st M9 127 5 0)).bind fun M10 =>
      (tm_rd M10 132 672 0).bind fun x12 =>
      some (x12, M10)
set_option maxHeartbeats 4000000 in
set_option maxRecDepth 100000 in
theorem c_X10_back (l : Launch) (g : tm_G) (A : Nat → Prop) (L : List Nat) (hD : ∀ M, va_D A (tm_ws g L M)) (hF : ∀ o, tm_all o → o ∈ L) (M : tm_M) (p1 : Int32) (R0 : Int32 × tm_M) (h : f_X10_back M p1 = some R0) : Met l yX10_back wsX10_back { frames := 1, cells := 0, slots := 0, locals := 23 } (tm_PC g A L M [.ref (g.2.2 + 127), .int p1]) (tm_QI g A L R0) 0 0 A := by
  refine tm_start (cc := cX10_back) (nL := 2) (ret := (some .int)) (F := tm_all) (plainFor_of_name (by decide)) rfl (Nat.le_of_ble_eq_true rfl) hD hF (fun p e s m args below meth c ls C0 hP hS hl => ?_)
  have hl : lv_has ls 2 [(0, .ref (g.2.2 + 127)), (1, .int p1)] := hl
  have C0 : tm_C p m c cX10_back 2 s args wsX10_back RX10 meth (some .int) g A L tm_all := C0
  obtain ⟨⟨hx, hb, hml, hown, hts⟩, hr, hlk, hK, hD, hG, hF⟩ := id C0
  unfold f_X10_back at h
  refine lv_iload_n hx hb dX10_back_0 rfl (lv_at hl 1 rfl) ?_
  refine lv_iconst (v := 0) hx hb dX10_back_1 (by decide) ?_
  refine lv_iconst (v := 1) hx hb dX10_back_2 (by decide) ?_
  obtain ⟨r1, e2, h⟩ := tm_bd_some h
  refine tm_backI (r0 := r1) (M0 := M) (fun _ q => q) (tm_callS (As := [.int p1, .int 0, .int 1]) (rest := []) ⟨hx, hb, hml, hown, hts⟩ hK hG hP hS (c_X10_in l g A L hD hF M p1 0 1 r1 e2) (va_cwS 3 hts gX10_back_X10_in rfl rfl rfl (by decide +kernel) ⟨Nat.le_of_ble_eq_true rfl, Nat.le_of_ble_eq_true rfl⟩) rfl hl.1 (lv_room (Nat.le_of_ble_eq_true rfl)) dX10_back_3 ⟨Nat.zero_le _, Nat.zero_le _⟩) hS (fun H locs hP hS => ?_)
  refine lv_if_ne (tgt := 12) hx hb dX10_back_6 (by decide) (fun c3 => ?_) (fun c3 => ?_)
  · rw [if_neg c3] at h
    refine lv_aload_n hx hb dX10_back_12 rfl (lv_at hl 0 rfl) ?_
    refine tm_get (C := RX10) (T := TX10) (N := 23) (v := .ref (g.2.2 + 133)) hx hb hts nX10_back_X10 hown hK hP (hF 127 (by decide)) (tm_mkX10 (by decide) _) rfl 6 (by decide) (hts _ kX10_back_0) rfl dX10_back_13 ?_
    refine lv_iload_n hx hb dX10_back_16 rfl (lv_at hl 1 rfl) ?_
    obtain ⟨x4, e5, h⟩ := tm_bd_some h
    refine tm_zald hx hb hK hP (hF 133 (by decide)) (tm_mkZ (n := 2) (by decide) (by decide)) e5 dX10_back_17 ?_
    refine lv_if_ne (tgt := 24) hx hb dX10_back_18 (by decide) (fun c6 => ?_) (fun c6 => ?_)
    · rw [if_neg c6] at h
      refine lv_aload_n hx hb dX10_back_24 rfl (lv_at hl 0 rfl) ?_
      refine lv_sipush (v := 504) hx hb dX10_back_25 (by decide) ?_
      refine lv_bipush (v := 56) hx hb dX10_back_28 (by decide) ?_
      refine lv_iload_n hx hb dX10_back_30 rfl (lv_at hl 1 rfl) ?_
      refine lv_imul hx hb dX10_back_31 ?_
      refine lv_iadd hx hb dX10_back_32 ?_
      refine lv_iconst (v := 0) hx hb dX10_back_33 (by decide) ?_
      obtain ⟨M9, e8, h⟩ := tm_bd_some h
      refine tm_backV (M0 := M9) (fun _ q => q) (tm_callV (As := [.int (504 + (56 * p1)), .int 0]) (rest := []) ⟨hx, hb, hml, hown, hts⟩ hK hG hP hS (c_X10_copyDesk l g A L hD hF M (504 + (56 * p1)) 0 M9 e8) (cwV 2 hts gX10_back_X10_copyDesk rfl rfl rfl (by decide +kernel) ⟨Nat.le_of_ble_eq_true rfl, Nat.le_of_ble_eq_true rfl⟩) (tm_recv hK hP (hF 127 (by decide)) (ci := 9) rfl (tm_mkX10 (by decide) _)) rfl hl.1 (lv_room (Nat.le_of_ble_eq_true rfl)) dX10_back_34 ⟨Nat.zero_le _, Nat.zero_le _⟩) hS (fun H locs hP hS => ?_)
      refine lv_aload_n hx hb dX10_back_37 rfl (lv_at hl 0 rfl) ?_
      refine lv_iconst (v := 0) hx hb dX10_back_38 (by decide) ?_
      obtain ⟨M10, e11, h⟩ := tm_bd_some h
      refine tm_put (C := RX10) (T := TX10) (N := 23) (ty := .int) (x := 0) hx hb hts nX10_back_X10 tyX10 tyX10_ok nmX10 hown hK hP hD hS (hF 127 (by decide)) (tm_mkX10 (by decide)) rfl 5 (by decide) (hts _ kX10_back_1) rfl (by decide +kernel) rfl rfl (Nat.le_of_ble_eq_true rfl) rfl (Option.some.inj e11) dX10_back_39 (fun H locs hP hS => ?_)
      refine lv_aload_n hx hb dX10_back_42 rfl (lv_at hl 0 rfl) ?_
      refine tm_get (C := RX10) (T := TX10) (N := 23) (v := .ref (g.2.2 + 132)) hx hb hts nX10_back_X10 hown hK hP (hF 127 (by decide)) (tm_mkX10 (by decide) _) rfl 4 (by decide) (hts _ kX10_back_2) rfl dX10_back_43 ?_
      refine lv_iconst (v := 0) hx hb dX10_back_46 (by decide) ?_
      obtain ⟨x12, e13, h⟩ := tm_bd_some h
      refine tm_iald hx hb hK hP (hF 132 (by decide)) (tm_mkI (n := 672) (by decide) (by decide)) e13 dX10_back_47 ?_
      exact tm_iret C0 (Option.some.inj h) hP hS dX10_back_48
    · rw [if_pos c6] at h
      refine lv_bipush (v := (-4)) hx hb dX10_back_21 (by decide) ?_
      exact tm_iret C0 (Option.some.inj h) hP hS dX10_back_23
  · rw [if_pos c3] at h
    refine lv_bipush (v := (-2)) hx hb dX10_back_9 (by decide) ?_
    exact tm_iret C0 (Option.some.inj h) hP hS dX10_back_11
/-! X10_sumOf -/
theorem nX10_sumOf_X10 : ∀ w ∈ wsX100, w ∈ wsX10_sumOf := by decide +kernel
theorem kX10_sumOf_0 : Cond.fieldLink RX10 59 "QuarrelDeskModel" "couples" "I" ∈ wsX10_sumOf := by decide +kernel
theorem kX10_sumOf_1 : Cond.fieldLink RX10 22 "QuarrelDeskModel" "row" "[I" ∈ wsX10_sumOf := by decide +kernel
def f_X10_sumOf_L5 (k : Int32 → Int32 → Option Int32) (M : tm_M) (w1 : Int32) (w2 : Int32) : Nat → Int32 → Int32 → Option Int32
  | 0, _, _ => none
  | n + 1, v3, v4 =>
    if (M 127 7) ≤ v4 then
      k v3 v4
    else
      (tm_rd M 132 672 ((w1 + w2) + v4)).bind fun x2 =>
      (some (v3 + x2)).bind fun x4 =>
      f_X10_sumOf_L5 k M w1 w2 n x4 (v4 + 1)
def f_X10_sumOf (M : tm_M) (p1 : Int32) (p2 : Int32) : Option Int32 :=
  f_X10_sumOf_L5 (fun v5 v6 =>
    some v5) M p1 p2 1000 0 0
set_option maxHeartbeats 4000000 in
set_option maxRecDepth 100000 in
theorem w_X10_sumOf_L5 {p : Program} {l : Launch} {e : Env} {s : State} {m : MethodId} {args : Array Value} {below : List Frame} {meth : Method} {c : Code} {g : tm_G} {A : Nat → Prop} {L : List Nat} (C0 : tm_C p m c cX10_sumOf 5 s args wsX10_sumOf RX10 meth (some .int) g A L tm_all) (M : tm_M) (w1 : Int32) (w2 : Int32) (k : Int32 → Int32 → Option Int32) (r0 : Int32) (hk : ∀ (v3 : Int32) (v4 : Int32), k v3 v4 = some r0 → ∀ (H : Heap) (locs : List Loc) (ls : Array Slot), va_P g.1 vwCl (tm_ws g L M) H → va_S A s.heap H locs → lv_has ls 5 [(0, .ref (g.2.2 + 127)), (1, .int w1), (2, .int w2), (3, .int v3), (4, .int v4)] → W p l e { frames := 0, cells := 0, slots := 0, locals := 0 } s m args below meth c H locs 0 0 (MQ below (tm_QI g A L (r0, M)) args s 0 0 A) (F0 m 34 ls [])) : ∀ (n : Nat) (v3 : Int32) (v4 : Int32), f_X10_sumOf_L5 k M w1 w2 n v3 v4 = some r0 → ∀ (H : Heap) (locs : List Loc) (ls : Array Slot), va_P g.1 vwCl (tm_ws g L M) H → va_S A s.heap H locs → lv_has ls 5 [(0, .ref (g.2.2 + 127)), (1, .int w1), (2, .int w2), (3, .int v3), (4, .int v4)] → W p l e { frames := 0, cells := 0, slots := 0, locals := 0 } s m args below meth c H locs 0 0 (MQ below (tm_QI g A L (r0, M)) args s 0 0 A) (F0 m 5 ls []) := by
  obtain ⟨⟨hx, hb, hml, hown, hts⟩, hr, hlk, hK, hD, hG, hF⟩ := id C0
  intro n
  induction n with
  | zero =>
    intro v3 v4 h
    simp [f_X10_sumOf_L5] at h
  | succ n ih =>
    intro v3 v4 h H locs ls hP hS hl
    rw [f_X10_sumOf_L5] at h
    refine lv_iload hx hb dX10_sumOf_5 (lv_at hl 4 rfl) ?_
    refine lv_aload_n hx hb dX10_sumOf_7 rfl (lv_at hl 0 rfl) ?_
    refine tm_get (C := RX10) (T := TX10) (N := 23) (v := .int (M 127 7)) hx hb hts nX10_sumOf_X10 hown hK hP (hF 127 (by decide)) (tm_mkX10 (by decide) _) rfl 7 (by decide) (hts _ kX10_sumOf_0) rfl dX10_sumOf_8 ?_
    refine lv_icmp_ge (tgt := 34) hx hb dX10_sumOf_11 (by decide) (fun c1 => ?_) (fun c1 => ?_)
    · rw [if_pos c1] at h
      exact hk v3 v4 h _ _ _ hP hS (lv_sub hl [0, 1, 2, 3, 4] rfl)
    · rw [if_neg c1] at h
      refine lv_iload_n hx hb dX10_sumOf_14 rfl (lv_at hl 3 rfl) ?_
      refine lv_aload_n hx hb dX10_sumOf_15 rfl (lv_at hl 0 rfl) ?_
      refine tm_get (C := RX10) (T := TX10) (N := 23) (v := .ref (g.2.2 + 132)) hx hb hts nX10_sumOf_X10 hown hK hP (hF 127 (by decide)) (tm_mkX10 (by decide) _) rfl 4 (by decide) (hts _ kX10_sumOf_1) rfl dX10_sumOf_16 ?_
      refine lv_iload_n hx hb dX10_sumOf_19 rfl (lv_at hl 1 rfl) ?_
      refine lv_iload_n hx hb dX10_sumOf_20 rfl (lv_at hl 2 rfl) ?_
      refine lv_iadd hx hb dX10_sumOf_21 ?_
      refine lv_iload hx hb dX10_sumOf_22 (lv_at hl 4 rfl) ?_
      refine lv_iadd hx hb dX10_sumOf_24 ?_
      obtain ⟨x2, e3, h⟩ := tm_bd_some h
      refine tm_iald hx hb hK hP (hF 132 (by decide)) (tm_mkI (n := 672) (by decide) (by decide)) e3 dX10_sumOf_25 ?_
      refine lv_iadd hx hb dX10_sumOf_26 ?_
      refine tm_nam h (fun x4 h => ?_)
      refine lv_istore_n (lv' := [(3, .int x4), (0, .ref (g.2.2 + 127)), (1, .int w1), (2, .int w2), (4, .int v4)]) hx hb dX10_sumOf_27 rfl hl (by decide) rfl (fun ls hl => ?_)
      refine lv_iinc (v := v4 + 1) (lv' := [(4, .int (v4 + 1)), (3, .int x4), (0, .ref (g.2.2 + 127)), (1, .int w1), (2, .int w2)]) hx hb dX10_sumOf_28 hl (k := 4) rfl rfl (by decide) rfl (fun ls hl => ?_)
      refine lv_goto (tgt := 5) hx hb dX10_sumOf_31 (by decide) ?_
      exact ih x4 (v4 + 1) h _ _ _ hP hS (lv_sub hl [2, 3, 4, 1, 0] rfl)
set_option maxHeartbeats 4000000 in
set_option maxRecDepth 100000 in
theorem c_X10_sumOf (l : Launch) (g : tm_G) (A : Nat → Prop) (L : List Nat) (hD : ∀ M, va_D A (tm_ws g L M)) (hF : ∀ o, tm_all o → o ∈ L) (M : tm_M) (p1 : Int32) (p2 : Int32) (r0 : Int32) (h : f_X10_sumOf M p1 p2 = some r0) : Met l yX10_sumOf wsX10_sumOf { frames := 0, cells := 0, slots := 0, locals := 0 } (tm_PC g A L M [.ref (g.2.2 + 127), .int p1, .int p2]) (tm_QI g A L (r0, M)) 0 0 A := by
  refine tm_start (cc := cX10_sumOf) (nL := 5) (ret := (some .int)) (F := tm_all) (plainFor_of_name (by decide)) rfl (Nat.le_of_ble_eq_true rfl) hD hF (fun p e s m args below meth c ls C0 hP hS hl => ?_)
  have hl : lv_has ls 5 [(0, .ref (g.2.2 + 127)), (1, .int p1), (2, .int p2)] := hl
  have C0 : tm_C p m c cX10_sumOf 5 s args wsX10_sumOf RX10 meth (some .int) g A L tm_all := C0
  obtain ⟨⟨hx, hb, hml, hown, hts⟩, hr, hlk, hK, hD, hG, hF⟩ := id C0
  unfold f_X10_sumOf at h
  refine lv_iconst (v := 0) hx hb dX10_sumOf_0 (by decide) ?_
  refine lv_istore_n (lv' := [(3, .int 0), (0, .ref (g.2.2 + 127)), (1, .int p1), (2, .int p2)]) hx hb dX10_sumOf_1 rfl hl (by decide) rfl (fun ls hl => ?_)
  refine lv_iconst (v := 0) hx hb dX10_sumOf_2 (by decide) ?_
  refine lv_istore (lv' := [(4, .int 0), (3, .int 0), (0, .ref (g.2.2 + 127)), (1, .int p1), (2, .int p2)]) hx hb dX10_sumOf_3 hl (by decide) rfl (fun ls hl => ?_)
  refine w_X10_sumOf_L5 C0 M p1 p2 _ r0 (fun v5 v6 h H locs ls hP hS hl => ?_) 1000 0 0 h _ _ _ hP hS (lv_sub hl [2, 3, 4, 1, 0] rfl)
  refine lv_iload_n hx hb dX10_sumOf_34 rfl (lv_at hl 3 rfl) ?_
  exact tm_iret C0 (by rw [Option.some.inj h]) hP hS dX10_sumOf_35
/-! X10_balanceOf -/
def f_X10_balanceOf (M : tm_M) (p1 : Int32) : Option Int32 :=
  (f_X10_sumOf M p1 32).bind fun r1 =>
  (f_X10_sumOf M p1 38).bind fun r3 =>
  some (r1 - r3)
set_option maxHeartbeats 4000000 in
set_option maxRecDepth 100000 in
theorem c_X10_balanceOf (l : Launch) (g : tm_G) (A : Nat → Prop) (L : List Nat) (hD : ∀ M, va_D A (tm_ws g L M)) (hF : ∀ o, tm_all o → o ∈ L) (M : tm_M) (p1 : Int32) (r0 : Int32) (h : f_X10_balanceOf M p1 = some r0) : Met l yX10_balanceOf wsX10_balanceOf { frames := 1, cells := 0, slots := 0, locals := 24 } (tm_PC g A L M [.ref (g.2.2 + 127), .int p1]) (tm_QI g A L (r0, M)) 0 0 A := by
  refine tm_start (cc := cX10_balanceOf) (nL := 2) (ret := (some .int)) (F := tm_all) (plainFor_of_name (by decide)) rfl (Nat.le_of_ble_eq_true rfl) hD hF (fun p e s m args below meth c ls C0 hP hS hl => ?_)
  have hl : lv_has ls 2 [(0, .ref (g.2.2 + 127)), (1, .int p1)] := hl
  have C0 : tm_C p m c cX10_balanceOf 2 s args wsX10_balanceOf RX10 meth (some .int) g A L tm_all := C0
  obtain ⟨⟨hx, hb, hml, hown, hts⟩, hr, hlk, hK, hD, hG, hF⟩ := id C0
  unfold f_X10_balanceOf at h
  refine lv_aload_n hx hb dX10_balanceOf_0 rfl (lv_at hl 0 rfl) ?_
  refine lv_iload_n hx hb dX10_balanceOf_1 rfl (lv_at hl 1 rfl) ?_
  refine lv_bipush (v := 32) hx hb dX10_balanceOf_2 (by decide) ?_
  obtain ⟨r1, e2, h⟩ := tm_bd_some h
  refine tm_backI (r0 := r1) (M0 := M) (fun _ q => q) (tm_callV (As := [.int p1, .int 32]) (rest := []) ⟨hx, hb, hml, hown, hts⟩ hK hG hP hS (c_X10_sumOf l g A L hD hF M p1 32 r1 e2) (cwV 2 hts gX10_balanceOf_X10_sumOf rfl rfl rfl (by decide +kernel) ⟨Nat.le_of_ble_eq_true rfl, Nat.le_of_ble_eq_true rfl⟩) (tm_recv hK hP (hF 127 (by decide)) (ci := 9) rfl (tm_mkX10 (by decide) _)) rfl hl.1 (lv_room (Nat.le_of_ble_eq_true rfl)) dX10_balanceOf_4 ⟨Nat.zero_le _, Nat.zero_le _⟩) hS (fun H locs hP hS => ?_)
  refine lv_aload_n hx hb dX10_balanceOf_7 rfl (lv_at hl 0 rfl) ?_
  refine lv_iload_n hx hb dX10_balanceOf_8 rfl (lv_at hl 1 rfl) ?_
  refine lv_bipush (v := 38) hx hb dX10_balanceOf_9 (by decide) ?_
  obtain ⟨r3, e4, h⟩ := tm_bd_some h
  refine tm_backI (r0 := r3) (M0 := M) (fun _ q => q) (tm_callV (As := [.int p1, .int 38]) (rest := [.int r1]) ⟨hx, hb, hml, hown, hts⟩ hK hG hP hS (c_X10_sumOf l g A L hD hF M p1 38 r3 e4) (cwV 2 hts gX10_balanceOf_X10_sumOf rfl rfl rfl (by decide +kernel) ⟨Nat.le_of_ble_eq_true rfl, Nat.le_of_ble_eq_true rfl⟩) (tm_recv hK hP (hF 127 (by decide)) (ci := 9) rfl (tm_mkX10 (by decide) _)) rfl hl.1 (lv_room (Nat.le_of_ble_eq_true rfl)) dX10_balanceOf_11 ⟨Nat.zero_le _, Nat.zero_le _⟩) hS (fun H locs hP hS => ?_)
  refine lv_isub hx hb dX10_balanceOf_14 ?_
  exact tm_iret C0 (by rw [Option.some.inj h]) hP hS dX10_balanceOf_15
/-! X10_layTried -/
def f_X10_layTried_L10 (k : Int32 → tm_M → Option tm_M) (w1 : Int32) : Nat → Int32 → tm_M → Option tm_M
  | 0, _, _ => none
  | n + 1, v2, M =>
    if w1 ≤ v2 then
      k v2 M
    else
      (f_X10_pass M 616).bind fun r5 =>
      f_X10_layTried_L10 k w1 n (v2 + 1) r5.2
def f_X10_layTried (M : tm_M) (p1 : Int32) : Option tm_M :=
  (f_X10_copyDesk M 0 616).bind fun M3 =>
  f_X10_layTried_L10 (fun v7 M8 =>
    some M8) p1 1000 0 M3
set_option maxHeartbeats 4000000 in
set_option maxRecDepth 100000 in
theorem w_X10_layTried_L10 {p : Program} {l : Launch} {e : Env} {s : State} {m : MethodId} {args : Array Value} {below : List Frame} {meth : Method} {c : Code} {g : tm_G} {A : Nat → Prop} {L : List Nat} (C0 : tm_C p m c cX10_layTried 3 s args wsX10_layTried RX10 meth none g A L tm_all) (w1 : Int32) (k : Int32 → tm_M → Option tm_M) (M0 : tm_M) (hk : ∀ (v2 : Int32) (M : tm_M), k v2 M = some M0 → ∀ (H : Heap) (locs : List Loc) (ls : Array Slot), va_P g.1 vwCl (tm_ws g L M) H → va_S A s.heap H locs → lv_has ls 3 [(0, .ref (g.2.2 + 127)), (1, .int w1), (2, .int v2)] → W p l e { frames := 4, cells := 0, slots := 0, locals := 93 } s m args below meth c H locs 0 0 (MQ below (tm_QV g A L M0) args s 0 0 A) (F0 m 29 ls [])) : ∀ (n : Nat) (v2 : Int32) (M : tm_M), f_X10_layTried_L10 k w1 n v2 M = some M0 → ∀ (H : Heap) (locs : List Loc) (ls : Array Slot), va_P g.1 vwCl (tm_ws g L M) H → va_S A s.heap H locs → lv_has ls 3 [(0, .ref (g.2.2 + 127)), (1, .int w1), (2, .int v2)] → W p l e { frames := 4, cells := 0, slots := 0, locals := 93 } s m args below meth c H locs 0 0 (MQ below (tm_QV g A L M0) args s 0 0 A) (F0 m 10 ls []) := by
  obtain ⟨⟨hx, hb, hml, hown, hts⟩, hr, hlk, hK, hD, hG, hF⟩ := id C0
  intro n
  induction n with
  | zero =>
    intro v2 M h
    simp [f_X10_layTried_L10] at h
  | succ n ih =>
    intro v2 M h H locs ls hP hS hl
    rw [f_X10_layTried_L10] at h
    refine lv_iload_n hx hb dX10_layTried_10 rfl (lv_at hl 2 rfl) ?_
    refine lv_iload_n hx hb dX10_layTried_11 rfl (lv_at hl 1 rfl) ?_
    refine lv_icmp_ge (tgt := 29) hx hb dX10_layTried_12 (by decide) (fun c4 => ?_) (fun c4 => ?_)
    · rw [if_pos c4] at h
      exact hk v2 M h _ _ _ hP hS (lv_sub hl [0, 1, 2] rfl)
    · rw [if_neg c4] at h
      refine lv_aload_n hx hb dX10_layTried_15 rfl (lv_at hl 0 rfl) ?_
      refine lv_sipush (v := 616) hx hb dX10_layTried_16 (by decide) ?_
      obtain ⟨r5, e6, h⟩ := tm_bd_some h
      refine tm_backI (r0 := r5.1) (M0 := r5.2) (fun _ q => q) (tm_callV (As := [.int 616]) (rest := []) ⟨hx, hb, hml, hown, hts⟩ hK hG hP hS (c_X10_pass l g A L hD hF M 616 r5 e6) (cwV 1 hts gX10_layTried_X10_pass rfl rfl rfl (by decide +kernel) ⟨Nat.le_of_ble_eq_true rfl, Nat.le_of_ble_eq_true rfl⟩) (tm_recv hK hP (hF 127 (by decide)) (ci := 9) rfl (tm_mkX10 (by decide) _)) rfl hl.1 (lv_room (Nat.le_of_ble_eq_true rfl)) dX10_layTried_19 ⟨Nat.zero_le _, Nat.zero_le _⟩) hS (fun H locs hP hS => ?_)
      refine lv_pop hx hb dX10_layTried_22 rfl ?_
      refine lv_iinc (v := v2 + 1) (lv' := [(2, .int (v2 + 1)), (0, .ref (g.2.2 + 127)), (1, .int w1)]) hx hb dX10_layTried_23 hl (k := 2) rfl rfl (by decide) rfl (fun ls hl => ?_)
      refine lv_goto (tgt := 10) hx hb dX10_layTried_26 (by decide) ?_
      exact ih (v2 + 1) r5.2 h _ _ _ hP hS (lv_sub hl [1, 2, 0] rfl)
set_option maxHeartbeats 4000000 in
set_option maxRecDepth 100000 in
theorem c_X10_layTried (l : Launch) (g : tm_G) (A : Nat → Prop) (L : List Nat) (hD : ∀ M, va_D A (tm_ws g L M)) (hF : ∀ o, tm_all o → o ∈ L) (M : tm_M) (p1 : Int32) (M0 : tm_M) (h : f_X10_layTried M p1 = some M0) : Met l yX10_layTried wsX10_layTried { frames := 4, cells := 0, slots := 0, locals := 93 } (tm_PC g A L M [.ref (g.2.2 + 127), .int p1]) (tm_QV g A L M0) 0 0 A := by
  refine tm_start (cc := cX10_layTried) (nL := 3) (ret := none) (F := tm_all) (plainFor_of_name (by decide)) rfl (Nat.le_of_ble_eq_true rfl) hD hF (fun p e s m args below meth c ls C0 hP hS hl => ?_)
  have hl : lv_has ls 3 [(0, .ref (g.2.2 + 127)), (1, .int p1)] := hl
  have C0 : tm_C p m c cX10_layTried 3 s args wsX10_layTried RX10 meth none g A L tm_all := C0
  obtain ⟨⟨hx, hb, hml, hown, hts⟩, hr, hlk, hK, hD, hG, hF⟩ := id C0
  unfold f_X10_layTried at h
  refine lv_aload_n hx hb dX10_layTried_0 rfl (lv_at hl 0 rfl) ?_
  refine lv_iconst (v := 0) hx hb dX10_layTried_1 (by decide) ?_
  refine lv_sipush (v := 616) hx hb dX10_layTried_2 (by decide) ?_
  obtain ⟨M3, e2, h⟩ := tm_bd_some h
  refine tm_backV (M0 := M3) (fun _ q => q) (tm_callV (As := [.int 0, .int 616]) (rest := []) ⟨hx, hb, hml, hown, hts⟩ hK hG hP hS (c_X10_copyDesk l g A L hD hF M 0 616 M3 e2) (cwV 2 hts gX10_layTried_X10_copyDesk rfl rfl rfl (by decide +kernel) ⟨Nat.le_of_ble_eq_true rfl, Nat.le_of_ble_eq_true rfl⟩) (tm_recv hK hP (hF 127 (by decide)) (ci := 9) rfl (tm_mkX10 (by decide) _)) rfl hl.1 (lv_room (Nat.le_of_ble_eq_true rfl)) dX10_layTried_5 ⟨Nat.zero_le _, Nat.zero_le _⟩) hS (fun H locs hP hS => ?_)
  refine lv_iconst (v := 0) hx hb dX10_layTried_8 (by decide) ?_
  refine lv_istore_n (lv' := [(2, .int 0), (0, .ref (g.2.2 + 127)), (1, .int p1)]) hx hb dX10_layTried_9 rfl hl (by decide) rfl (fun ls hl => ?_)
  refine w_X10_layTried_L10 C0 p1 _ M0 (fun v7 M8 h H locs ls hP hS hl => ?_) 1000 0 M3 h _ _ _ hP hS (lv_sub hl [1, 2, 0] rfl)
  exact tm_vret C0 (Option.some.inj h) hP hS dX10_layTried_29
/-! X10_balance -/
theorem kX10_balance_0 : Cond.constant RX10 175 (999999) ∈ wsX10_balance := by decide +kernel
def f_X10_balance (M : tm_M) (p1 : Int32) : Option (Int32 × tm_M) :=
  (f_X10_in p1 0 60).bind fun r1 =>
  if r1 = 0 then
    some ((-3), M)
  else
    (f_X10_layTried M p1).bind fun M6 =>
    (f_X10_balanceOf M6 616).bind fun r7 =>
    some (r7 + 999999, M6)
set_option maxHeartbeats 4000000 in
set_option maxRecDepth 100000 in
theorem c_X10_balance (l : Launch) (g : tm_G) (A : Nat → Prop) (L : List Nat) (hD : ∀ M, va_D A (tm_ws g L M)) (hF : ∀ o, tm_all o → o ∈ L) (M : tm_M) (p1 : Int32) (R0 : Int32 × tm_M) (h : f_X10_balance M p1 = some R0) : Met l yX10_balance wsX10_balance { frames := 5, cells := 0, slots := 0, locals := 115 } (tm_PC g A L M [.ref (g.2.2 + 127), .int p1]) (tm_QI g A L R0) 0 0 A := by
  refine tm_start (cc := cX10_balance) (nL := 2) (ret := (some .int)) (F := tm_all) (plainFor_of_name (by decide)) rfl (Nat.le_of_ble_eq_true rfl) hD hF (fun p e s m args below meth c ls C0 hP hS hl => ?_)
  have hl : lv_has ls 2 [(0, .ref (g.2.2 + 127)), (1, .int p1)] := hl
  have C0 : tm_C p m c cX10_balance 2 s args wsX10_balance RX10 meth (some .int) g A L tm_all := C0
  obtain ⟨⟨hx, hb, hml, hown, hts⟩, hr, hlk, hK, hD, hG, hF⟩ := id C0
  unfold f_X10_balance at h
  refine lv_iload_n hx hb dX10_balance_0 rfl (lv_at hl 1 rfl) ?_
  refine lv_iconst (v := 0) hx hb dX10_balance_1 (by decide) ?_
  refine lv_bipush (v := 60) hx hb dX10_balance_2 (by decide) ?_
  obtain ⟨r1, e2, h⟩ := tm_bd_some h
  refine tm_backI (r0 := r1) (M0 := M) (fun _ q => q) (tm_callS (As := [.int p1, .int 0, .int 60]) (rest := []) ⟨hx, hb, hml, hown, hts⟩ hK hG hP hS (c_X10_in l g A L hD hF M p1 0 60 r1 e2) (va_cwS 3 hts gX10_balance_X10_in rfl rfl rfl (by decide +kernel) ⟨Nat.le_of_ble_eq_true rfl, Nat.le_of_ble_eq_true rfl⟩) rfl hl.1 (lv_room (Nat.le_of_ble_eq_true rfl)) dX10_balance_4 ⟨Nat.zero_le _, Nat.zero_le _⟩) hS (fun H locs hP hS => ?_)
  refine lv_if_ne (tgt := 13) hx hb dX10_balance_7 (by decide) (fun c3 => ?_) (fun c3 => ?_)
  · rw [if_neg c3] at h
    refine lv_aload_n hx hb dX10_balance_13 rfl (lv_at hl 0 rfl) ?_
    refine lv_iload_n hx hb dX10_balance_14 rfl (lv_at hl 1 rfl) ?_
    obtain ⟨M6, e5, h⟩ := tm_bd_some h
    refine tm_backV (M0 := M6) (fun _ q => q) (tm_callV (As := [.int p1]) (rest := []) ⟨hx, hb, hml, hown, hts⟩ hK hG hP hS (c_X10_layTried l g A L hD hF M p1 M6 e5) (cwV 1 hts gX10_balance_X10_layTried rfl rfl rfl (by decide +kernel) ⟨Nat.le_of_ble_eq_true rfl, Nat.le_of_ble_eq_true rfl⟩) (tm_recv hK hP (hF 127 (by decide)) (ci := 9) rfl (tm_mkX10 (by decide) _)) rfl hl.1 (lv_room (Nat.le_of_ble_eq_true rfl)) dX10_balance_15 ⟨Nat.zero_le _, Nat.zero_le _⟩) hS (fun H locs hP hS => ?_)
    refine lv_aload_n hx hb dX10_balance_18 rfl (lv_at hl 0 rfl) ?_
    refine lv_sipush (v := 616) hx hb dX10_balance_19 (by decide) ?_
    obtain ⟨r7, e8, h⟩ := tm_bd_some h
    refine tm_backI (r0 := r7) (M0 := M6) (fun _ q => q) (tm_callV (As := [.int 616]) (rest := []) ⟨hx, hb, hml, hown, hts⟩ hK hG hP hS (c_X10_balanceOf l g A L hD hF M6 616 r7 e8) (cwV 1 hts gX10_balance_X10_balanceOf rfl rfl rfl (by decide +kernel) ⟨Nat.le_of_ble_eq_true rfl, Nat.le_of_ble_eq_true rfl⟩) (tm_recv hK hP (hF 127 (by decide)) (ci := 9) rfl (tm_mkX10 (by decide) _)) rfl hl.1 (lv_room (Nat.le_of_ble_eq_true rfl)) dX10_balance_22 ⟨Nat.zero_le _, Nat.zero_le _⟩) hS (fun H locs hP hS => ?_)
    refine lv_ldc (v := 999999) hx hb hown (hts _ kX10_balance_0) dX10_balance_25 ?_
    refine lv_iadd hx hb dX10_balance_27 ?_
    exact tm_iret C0 (Option.some.inj h) hP hS dX10_balance_28
  · rw [if_pos c3] at h
    refine lv_bipush (v := (-3)) hx hb dX10_balance_10 (by decide) ?_
    exact tm_iret C0 (Option.some.inj h) hP hS dX10_balance_12
/-! X10_strain -/
theorem nX10_strain_X10 : ∀ w ∈ wsX100, w ∈ wsX10_strain := by decide +kernel
theorem kX10_strain_0 : Cond.fieldLink RX10 22 "QuarrelDeskModel" "row" "[I" ∈ wsX10_strain := by decide +kernel
def f_X10_strain (M : tm_M) (p1 : Int32) (p2 : Int32) : Option (Int32 × tm_M) :=
  (f_X10_isCouple M p1).bind fun r1 =>
  if r1 = 0 then
    some ((-2), M)
  else
    (f_X10_in p2 0 60).bind fun r4 =>
    if r4 = 0 then
      some ((-3), M)
    else
      (f_X10_layTried M p2).bind fun M9 =>
      (tm_rd M9 132 672 (623 + p1)).bind fun x10 =>
      some (x10, M9)
set_option maxHeartbeats 4000000 in
set_option maxRecDepth 100000 in
theorem c_X10_strain (l : Launch) (g : tm_G) (A : Nat → Prop) (L : List Nat) (hD : ∀ M, va_D A (tm_ws g L M)) (hF : ∀ o, tm_all o → o ∈ L) (M : tm_M) (p1 : Int32) (p2 : Int32) (R0 : Int32 × tm_M) (h : f_X10_strain M p1 p2 = some R0) : Met l yX10_strain wsX10_strain { frames := 5, cells := 0, slots := 0, locals := 115 } (tm_PC g A L M [.ref (g.2.2 + 127), .int p1, .int p2]) (tm_QI g A L R0) 0 0 A := by
  refine tm_start (cc := cX10_strain) (nL := 3) (ret := (some .int)) (F := tm_all) (plainFor_of_name (by decide)) rfl (Nat.le_of_ble_eq_true rfl) hD hF (fun p e s m args below meth c ls C0 hP hS hl => ?_)
  have hl : lv_has ls 3 [(0, .ref (g.2.2 + 127)), (1, .int p1), (2, .int p2)] := hl
  have C0 : tm_C p m c cX10_strain 3 s args wsX10_strain RX10 meth (some .int) g A L tm_all := C0
  obtain ⟨⟨hx, hb, hml, hown, hts⟩, hr, hlk, hK, hD, hG, hF⟩ := id C0
  unfold f_X10_strain at h
  refine lv_aload_n hx hb dX10_strain_0 rfl (lv_at hl 0 rfl) ?_
  refine lv_iload_n hx hb dX10_strain_1 rfl (lv_at hl 1 rfl) ?_
  obtain ⟨r1, e2, h⟩ := tm_bd_some h
  refine tm_backI (r0 := r1) (M0 := M) (fun _ q => q) (tm_callV (As := [.int p1]) (rest := []) ⟨hx, hb, hml, hown, hts⟩ hK hG hP hS (c_X10_isCouple l g A L hD hF M p1 r1 e2) (cwV 1 hts gX10_strain_X10_isCouple rfl rfl rfl (by decide +kernel) ⟨Nat.le_of_ble_eq_true rfl, Nat.le_of_ble_eq_true rfl⟩) (tm_recv hK hP (hF 127 (by decide)) (ci := 9) rfl (tm_mkX10 (by decide) _)) rfl hl.1 (lv_room (Nat.le_of_ble_eq_true rfl)) dX10_strain_2 ⟨Nat.zero_le _, Nat.zero_le _⟩) hS (fun H locs hP hS => ?_)
  refine lv_if_ne (tgt := 11) hx hb dX10_strain_5 (by decide) (fun c3 => ?_) (fun c3 => ?_)
  · rw [if_neg c3] at h
    refine lv_iload_n hx hb dX10_strain_11 rfl (lv_at hl 2 rfl) ?_
    refine lv_iconst (v := 0) hx hb dX10_strain_12 (by decide) ?_
    refine lv_bipush (v := 60) hx hb dX10_strain_13 (by decide) ?_
    obtain ⟨r4, e5, h⟩ := tm_bd_some h
    refine tm_backI (r0 := r4) (M0 := M) (fun _ q => q) (tm_callS (As := [.int p2, .int 0, .int 60]) (rest := []) ⟨hx, hb, hml, hown, hts⟩ hK hG hP hS (c_X10_in l g A L hD hF M p2 0 60 r4 e5) (va_cwS 3 hts gX10_strain_X10_in rfl rfl rfl (by decide +kernel) ⟨Nat.le_of_ble_eq_true rfl, Nat.le_of_ble_eq_true rfl⟩) rfl hl.1 (lv_room (Nat.le_of_ble_eq_true rfl)) dX10_strain_15 ⟨Nat.zero_le _, Nat.zero_le _⟩) hS (fun H locs hP hS => ?_)
    refine lv_if_ne (tgt := 24) hx hb dX10_strain_18 (by decide) (fun c6 => ?_) (fun c6 => ?_)
    · rw [if_neg c6] at h
      refine lv_aload_n hx hb dX10_strain_24 rfl (lv_at hl 0 rfl) ?_
      refine lv_iload_n hx hb dX10_strain_25 rfl (lv_at hl 2 rfl) ?_
      obtain ⟨M9, e8, h⟩ := tm_bd_some h
      refine tm_backV (M0 := M9) (fun _ q => q) (tm_callV (As := [.int p2]) (rest := []) ⟨hx, hb, hml, hown, hts⟩ hK hG hP hS (c_X10_layTried l g A L hD hF M p2 M9 e8) (cwV 1 hts gX10_strain_X10_layTried rfl rfl rfl (by decide +kernel) ⟨Nat.le_of_ble_eq_true rfl, Nat.le_of_ble_eq_true rfl⟩) (tm_recv hK hP (hF 127 (by decide)) (ci := 9) rfl (tm_mkX10 (by decide) _)) rfl hl.1 (lv_room (Nat.le_of_ble_eq_true rfl)) dX10_strain_26 ⟨Nat.zero_le _, Nat.zero_le _⟩) hS (fun H locs hP hS => ?_)
      refine lv_aload_n hx hb dX10_strain_29 rfl (lv_at hl 0 rfl) ?_
      refine tm_get (C := RX10) (T := TX10) (N := 23) (v := .ref (g.2.2 + 132)) hx hb hts nX10_strain_X10 hown hK hP (hF 127 (by decide)) (tm_mkX10 (by decide) _) rfl 4 (by decide) (hts _ kX10_strain_0) rfl dX10_strain_30 ?_
      refine lv_sipush (v := 623) hx hb dX10_strain_33 (by decide) ?_
      refine lv_iload_n hx hb dX10_strain_36 rfl (lv_at hl 1 rfl) ?_
      refine lv_iadd hx hb dX10_strain_37 ?_
      obtain ⟨x10, e11, h⟩ := tm_bd_some h
      refine tm_iald hx hb hK hP (hF 132 (by decide)) (tm_mkI (n := 672) (by decide) (by decide)) e11 dX10_strain_38 ?_
      exact tm_iret C0 (Option.some.inj h) hP hS dX10_strain_39
    · rw [if_pos c6] at h
      refine lv_bipush (v := (-3)) hx hb dX10_strain_21 (by decide) ?_
      exact tm_iret C0 (Option.some.inj h) hP hS dX10_strain_23
  · rw [if_pos c3] at h
    refine lv_bipush (v := (-2)) hx hb dX10_strain_8 (by decide) ?_
    exact tm_iret C0 (Option.some.inj h) hP hS dX10_strain_10
/-! X10_first -/
def f_X10_first_L18 (k : Int32 → tm_M → Option (Int32 × tm_M)) (w1 : Int32) : Nat → Int32 → tm_M → Option (Int32 × tm_M)
  | 0, _, _ => none
  | n + 1, v2, M =>
    if 61 ≤ v2 then
      k v2 M
    else
      (f_X10_pass M 616).bind fun r8 =>
      (f_X10_has r8.1 w1).bind fun r10 =>
      if r10 = 0 then
        f_X10_first_L18 k w1 n (v2 + 1) r8.2
      else
        some (v2, r8.2)
def f_X10_first (M : tm_M) (p1 : Int32) : Option (Int32 × tm_M) :=
  (f_X10_isCouple M p1).bind fun r1 =>
  if r1 = 0 then
    some ((-2), M)
  else
    (f_X10_layTried M 0).bind fun M6 =>
    f_X10_first_L18 (fun v13 M14 =>
      some ((-1), M14)) p1 1000 1 M6
set_option maxHeartbeats 4000000 in
set_option maxRecDepth 100000 in
theorem w_X10_first_L18 {p : Program} {l : Launch} {e : Env} {s : State} {m : MethodId} {args : Array Value} {below : List Frame} {meth : Method} {c : Code} {g : tm_G} {A : Nat → Prop} {L : List Nat} (C0 : tm_C p m c cX10_first 3 s args wsX10_first RX10 meth (some .int) g A L tm_all) (w1 : Int32) (k : Int32 → tm_M → Option (Int32 × tm_M)) (R0 : Int32 × tm_M) (hk : ∀ (v2 : Int32) (M : tm_M), k v2 M = some R0 → ∀ (H : Heap) (locs : List Loc) (ls : Array Slot), va_P g.1 vwCl (tm_ws g L M) H → va_S A s.heap H locs → lv_has ls 3 [(0, .ref (g.2.2 + 127)), (1, .int w1), (2, .int v2)] → W p l e { frames := 5, cells := 0, slots := 0, locals := 115 } s m args below meth c H locs 0 0 (MQ below (tm_QI g A L R0) args s 0 0 A) (F0 m 46 ls [])) : ∀ (n : Nat) (v2 : Int32) (M : tm_M), f_X10_first_L18 k w1 n v2 M = some R0 → ∀ (H : Heap) (locs : List Loc) (ls : Array Slot), va_P g.1 vwCl (tm_ws g L M) H → va_S A s.heap H locs → lv_has ls 3 [(0, .ref (g.2.2 + 127)), (1, .int w1), (2, .int v2)] → W p l e { frames := 5, cells := 0, slots := 0, locals := 115 } s m args below meth c H locs 0 0 (MQ below (tm_QI g A L R0) args s 0 0 A) (F0 m 18 ls []) := by
  obtain ⟨⟨hx, hb, hml, hown, hts⟩, hr, hlk, hK, hD, hG, hF⟩ := id C0
  intro n
  induction n with
  | zero =>
    intro v2 M h
    simp [f_X10_first_L18] at h
  | succ n ih =>
    intro v2 M h H locs ls hP hS hl
    rw [f_X10_first_L18] at h
    refine lv_iload_n hx hb dX10_first_18 rfl (lv_at hl 2 rfl) ?_
    refine lv_bipush (v := 61) hx hb dX10_first_19 (by decide) ?_
    refine lv_icmp_ge (tgt := 46) hx hb dX10_first_21 (by decide) (fun c7 => ?_) (fun c7 => ?_)
    · rw [if_pos c7] at h
      exact hk v2 M h _ _ _ hP hS (lv_sub hl [0, 1, 2] rfl)
    · rw [if_neg c7] at h
      refine lv_aload_n hx hb dX10_first_24 rfl (lv_at hl 0 rfl) ?_
      refine lv_sipush (v := 616) hx hb dX10_first_25 (by decide) ?_
      obtain ⟨r8, e9, h⟩ := tm_bd_some h
      refine tm_backI (r0 := r8.1) (M0 := r8.2) (fun _ q => q) (tm_callV (As := [.int 616]) (rest := []) ⟨hx, hb, hml, hown, hts⟩ hK hG hP hS (c_X10_pass l g A L hD hF M 616 r8 e9) (cwV 1 hts gX10_first_X10_pass rfl rfl rfl (by decide +kernel) ⟨Nat.le_of_ble_eq_true rfl, Nat.le_of_ble_eq_true rfl⟩) (tm_recv hK hP (hF 127 (by decide)) (ci := 9) rfl (tm_mkX10 (by decide) _)) rfl hl.1 (lv_room (Nat.le_of_ble_eq_true rfl)) dX10_first_28 ⟨Nat.zero_le _, Nat.zero_le _⟩) hS (fun H locs hP hS => ?_)
      refine lv_iload_n hx hb dX10_first_31 rfl (lv_at hl 1 rfl) ?_
      obtain ⟨r10, e11, h⟩ := tm_bd_some h
      refine tm_backI (r0 := r10) (M0 := r8.2) (fun _ q => q) (tm_callS (As := [.int r8.1, .int w1]) (rest := []) ⟨hx, hb, hml, hown, hts⟩ hK hG hP hS (c_X10_has l g A L hD hF r8.2 r8.1 w1 r10 e11) (va_cwS 2 hts gX10_first_X10_has rfl rfl rfl (by decide +kernel) ⟨Nat.le_of_ble_eq_true rfl, Nat.le_of_ble_eq_true rfl⟩) rfl hl.1 (lv_room (Nat.le_of_ble_eq_true rfl)) dX10_first_32 ⟨Nat.zero_le _, Nat.zero_le _⟩) hS (fun H locs hP hS => ?_)
      refine lv_if_eq (tgt := 40) hx hb dX10_first_35 (by decide) (fun c12 => ?_) (fun c12 => ?_)
      · rw [if_pos c12] at h
        refine lv_iinc (v := v2 + 1) (lv' := [(2, .int (v2 + 1)), (0, .ref (g.2.2 + 127)), (1, .int w1)]) hx hb dX10_first_40 hl (k := 2) rfl rfl (by decide) rfl (fun ls hl => ?_)
        refine lv_goto (tgt := 18) hx hb dX10_first_43 (by decide) ?_
        exact ih (v2 + 1) r8.2 h _ _ _ hP hS (lv_sub hl [1, 2, 0] rfl)
      · rw [if_neg c12] at h
        refine lv_iload_n hx hb dX10_first_38 rfl (lv_at hl 2 rfl) ?_
        exact tm_iret C0 (Option.some.inj h) hP hS dX10_first_39
set_option maxHeartbeats 4000000 in
set_option maxRecDepth 100000 in
theorem c_X10_first (l : Launch) (g : tm_G) (A : Nat → Prop) (L : List Nat) (hD : ∀ M, va_D A (tm_ws g L M)) (hF : ∀ o, tm_all o → o ∈ L) (M : tm_M) (p1 : Int32) (R0 : Int32 × tm_M) (h : f_X10_first M p1 = some R0) : Met l yX10_first wsX10_first { frames := 5, cells := 0, slots := 0, locals := 115 } (tm_PC g A L M [.ref (g.2.2 + 127), .int p1]) (tm_QI g A L R0) 0 0 A := by
  refine tm_start (cc := cX10_first) (nL := 3) (ret := (some .int)) (F := tm_all) (plainFor_of_name (by decide)) rfl (Nat.le_of_ble_eq_true rfl) hD hF (fun p e s m args below meth c ls C0 hP hS hl => ?_)
  have hl : lv_has ls 3 [(0, .ref (g.2.2 + 127)), (1, .int p1)] := hl
  have C0 : tm_C p m c cX10_first 3 s args wsX10_first RX10 meth (some .int) g A L tm_all := C0
  obtain ⟨⟨hx, hb, hml, hown, hts⟩, hr, hlk, hK, hD, hG, hF⟩ := id C0
  unfold f_X10_first at h
  refine lv_aload_n hx hb dX10_first_0 rfl (lv_at hl 0 rfl) ?_
  refine lv_iload_n hx hb dX10_first_1 rfl (lv_at hl 1 rfl) ?_
  obtain ⟨r1, e2, h⟩ := tm_bd_some h
  refine tm_backI (r0 := r1) (M0 := M) (fun _ q => q) (tm_callV (As := [.int p1]) (rest := []) ⟨hx, hb, hml, hown, hts⟩ hK hG hP hS (c_X10_isCouple l g A L hD hF M p1 r1 e2) (cwV 1 hts gX10_first_X10_isCouple rfl rfl rfl (by decide +kernel) ⟨Nat.le_of_ble_eq_true rfl, Nat.le_of_ble_eq_true rfl⟩) (tm_recv hK hP (hF 127 (by decide)) (ci := 9) rfl (tm_mkX10 (by decide) _)) rfl hl.1 (lv_room (Nat.le_of_ble_eq_true rfl)) dX10_first_2 ⟨Nat.zero_le _, Nat.zero_le _⟩) hS (fun H locs hP hS => ?_)
  refine lv_if_ne (tgt := 11) hx hb dX10_first_5 (by decide) (fun c3 => ?_) (fun c3 => ?_)
  · rw [if_neg c3] at h
    refine lv_aload_n hx hb dX10_first_11 rfl (lv_at hl 0 rfl) ?_
    refine lv_iconst (v := 0) hx hb dX10_first_12 (by decide) ?_
    obtain ⟨M6, e5, h⟩ := tm_bd_some h
    refine tm_backV (M0 := M6) (fun _ q => q) (tm_callV (As := [.int 0]) (rest := []) ⟨hx, hb, hml, hown, hts⟩ hK hG hP hS (c_X10_layTried l g A L hD hF M 0 M6 e5) (cwV 1 hts gX10_first_X10_layTried rfl rfl rfl (by decide +kernel) ⟨Nat.le_of_ble_eq_true rfl, Nat.le_of_ble_eq_true rfl⟩) (tm_recv hK hP (hF 127 (by decide)) (ci := 9) rfl (tm_mkX10 (by decide) _)) rfl hl.1 (lv_room (Nat.le_of_ble_eq_true rfl)) dX10_first_13 ⟨Nat.zero_le _, Nat.zero_le _⟩) hS (fun H locs hP hS => ?_)
    refine lv_iconst (v := 1) hx hb dX10_first_16 (by decide) ?_
    refine lv_istore_n (lv' := [(2, .int 1), (0, .ref (g.2.2 + 127)), (1, .int p1)]) hx hb dX10_first_17 rfl hl (by decide) rfl (fun ls hl => ?_)
    refine w_X10_first_L18 C0 p1 _ R0 (fun v13 M14 h H locs ls hP hS hl => ?_) 1000 1 M6 h _ _ _ hP hS (lv_sub hl [1, 2, 0] rfl)
    refine lv_iconst (v := (-1)) hx hb dX10_first_46 (by decide) ?_
    exact tm_iret C0 (Option.some.inj h) hP hS dX10_first_47
  · rw [if_pos c3] at h
    refine lv_bipush (v := (-2)) hx hb dX10_first_8 (by decide) ?_
    exact tm_iret C0 (Option.some.inj h) hP hS dX10_first_10
