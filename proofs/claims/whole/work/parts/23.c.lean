/-! X9_foreseeBreaks -/
theorem nX9_foreseeBreaks_X9 : ∀ w ∈ wsX90, w ∈ wsX9_foreseeBreaks := by decide +kernel
theorem kX9_foreseeBreaks_0 : Cond.fieldLink RX9 74 "QuarrelDesk" "brokenOn" "[I" ∈ wsX9_foreseeBreaks := by decide +kernel
theorem kX9_foreseeBreaks_1 : Cond.fieldLink RX9 43 "QuarrelDesk" "now" "LQuarrelDesk$Year;" ∈ wsX9_foreseeBreaks := by decide +kernel
theorem nX9_foreseeBreaks_X8 : ∀ w ∈ wsX80, w ∈ wsX9_foreseeBreaks := by decide +kernel
theorem kX9_foreseeBreaks_2 : Cond.fieldLink RX9 89 "QuarrelDesk$Year" "couples" "I" ∈ wsX9_foreseeBreaks := by decide +kernel
theorem kX9_foreseeBreaks_3 : Cond.fieldLink RX9 70 "QuarrelDesk" "tried" "LQuarrelDesk$Life;" ∈ wsX9_foreseeBreaks := by decide +kernel
theorem kX9_foreseeBreaks_4 : Cond.fieldLink RX9 118 "QuarrelDesk$Year" "lives" "[LQuarrelDesk$Life;" ∈ wsX9_foreseeBreaks := by decide +kernel
theorem kX9_foreseeBreaks_5 : Cond.fieldLink RX9 133 "QuarrelDesk$Year" "day" "I" ∈ wsX9_foreseeBreaks := by decide +kernel
theorem kX9_foreseeBreaks_6 : Cond.fieldLink RX9 140 "QuarrelDesk$Year" "terms" "LQuarrelDesk$Terms;" ∈ wsX9_foreseeBreaks := by decide +kernel
def f_X9_foreseeBreaks_L2 (k : Int32 → tm_M → Option tm_M) (w1 : Int32) : Nat → Int32 → tm_M → Option tm_M
  | 0, _, _ => none
  | n + 1, v2, M =>
    if w1 ≤ v2 then
      k v2 M
    else
      if 60 ≤ v2 then
        k v2 M
      else
        (tm_wr M 126 60 v2 0).bind fun M3 =>
        f_X9_foreseeBreaks_L2 k w1 n (v2 + 1) M3
def f_X9_foreseeBreaks_L63 (k : Int32 → tm_M → Option tm_M) (w1 : Int32) (w2 : Int32) : Nat → Int32 → tm_M → Option tm_M
  | 0, _, _ => none
  | n + 1, v3, M =>
    if w1 ≤ v3 then
      k v3 M
    else
      if 60 ≤ v3 then
        k v3 M
      else
        (f_X1_pass M 125 ((M 20 3) + v3) 21).bind fun r16 =>
        if r16.1 = 0 then
          f_X9_foreseeBreaks_L63 k w1 w2 n (v3 + 1) r16.2
        else
          (tm_rd r16.2 126 60 v3).bind fun x19 =>
          (tm_wr r16.2 126 60 v3 (x19 ||| (1 <<< (w2 &&& 31)))).bind fun M21 =>
          f_X9_foreseeBreaks_L63 k w1 w2 n (v3 + 1) M21
def f_X9_foreseeBreaks_L28 (k : Int32 → tm_M → Option tm_M) (w1 : Int32) : Nat → Int32 → tm_M → Option tm_M
  | 0, _, _ => none
  | n + 1, v2, M =>
    if (M 20 2) ≤ v2 then
      k v2 M
    else
      if 6 ≤ v2 then
        k v2 M
      else
        (tm_rdr 22 6 v2).bind fun x9 =>
        (f_X1_copy M 125 x9).bind fun M13 =>
        f_X9_foreseeBreaks_L63 (fun v23 M24 =>
          f_X9_foreseeBreaks_L28 k w1 n (v2 + 1) M24) w1 v2 1000 0 M13
def f_X9_foreseeBreaks (M : tm_M) (p1 : Int32) : Option tm_M :=
  f_X9_foreseeBreaks_L2 (fun v5 M6 =>
    f_X9_foreseeBreaks_L28 (fun v25 M26 =>
      some M26) p1 1000 0 M6) p1 1000 0 M
set_option maxHeartbeats 4000000 in
set_option maxRecDepth 100000 in
theorem w_X9_foreseeBreaks_L2 {p : Program} {l : Launch} {e : Env} {s : State} {m : MethodId} {args : Array Value} {below : List Frame} {meth : Method} {c : Code} {g : tm_G} {A : Nat → Prop} {L : List Nat} (C0 : tm_C p m c cX9_foreseeBreaks 4 s args wsX9_foreseeBreaks RX9 meth none g A L tm_all) (w1 : Int32) (k : Int32 → tm_M → Option tm_M) (M0 : tm_M) (hk : ∀ (v2 : Int32) (M : tm_M), k v2 M = some M0 → ∀ (H : Heap) (locs : List Loc) (ls : Array Slot), va_P g.1 vwCl (tm_ws g L M) H → va_S A s.heap H locs → lv_has ls 4 [(0, .ref (g.2.2 + 0)), (1, .int w1), (2, .int v2)] → W p l e { frames := 4, cells := 0, slots := 0, locals := 88 } s m args below meth c H locs 0 0 (MQ below (tm_QV g A L M0) args s 0 0 A) (F0 m 26 ls [])) : ∀ (n : Nat) (v2 : Int32) (M : tm_M), f_X9_foreseeBreaks_L2 k w1 n v2 M = some M0 → ∀ (H : Heap) (locs : List Loc) (ls : Array Slot), va_P g.1 vwCl (tm_ws g L M) H → va_S A s.heap H locs → lv_has ls 4 [(0, .ref (g.2.2 + 0)), (1, .int w1), (2, .int v2)] → W p l e { frames := 4, cells := 0, slots := 0, locals := 88 } s m args below meth c H locs 0 0 (MQ below (tm_QV g A L M0) args s 0 0 A) (F0 m 2 ls []) := by
  obtain ⟨⟨hx, hb, hml, hown, hts⟩, hr, hlk, hK, hD, hG, hF⟩ := id C0
  intro n
  induction n with
  | zero =>
    intro v2 M h
    simp [f_X9_foreseeBreaks_L2] at h
  | succ n ih =>
    intro v2 M h H locs ls hP hS hl
    rw [f_X9_foreseeBreaks_L2] at h
    refine lv_iload_n hx hb dX9_foreseeBreaks_2 rfl (lv_at hl 2 rfl) ?_
    refine lv_iload_n hx hb dX9_foreseeBreaks_3 rfl (lv_at hl 1 rfl) ?_
    refine lv_icmp_ge (tgt := 26) hx hb dX9_foreseeBreaks_4 (by decide) (fun c1 => ?_) (fun c1 => ?_)
    · rw [if_pos c1] at h
      exact hk v2 M h _ _ _ hP hS (lv_sub hl [0, 1, 2] rfl)
    · rw [if_neg c1] at h
      refine lv_iload_n hx hb dX9_foreseeBreaks_7 rfl (lv_at hl 2 rfl) ?_
      refine lv_bipush (v := 60) hx hb dX9_foreseeBreaks_8 (by decide) ?_
      refine lv_icmp_ge (tgt := 26) hx hb dX9_foreseeBreaks_10 (by decide) (fun c2 => ?_) (fun c2 => ?_)
      · rw [if_pos c2] at h
        exact hk v2 M h _ _ _ hP hS (lv_sub hl [0, 1, 2] rfl)
      · rw [if_neg c2] at h
        refine lv_aload_n hx hb dX9_foreseeBreaks_13 rfl (lv_at hl 0 rfl) ?_
        refine tm_get (C := RX9) (T := TX9) (N := 15) (v := .ref (g.2.2 + 126)) hx hb hts nX9_foreseeBreaks_X9 hown hK hP (hF 0 (by decide)) (tm_mkX9 (by decide) _) rfl 14 (by decide) (hts _ kX9_foreseeBreaks_0) rfl dX9_foreseeBreaks_14 ?_
        refine lv_iload_n hx hb dX9_foreseeBreaks_17 rfl (lv_at hl 2 rfl) ?_
        refine lv_iconst (v := 0) hx hb dX9_foreseeBreaks_18 (by decide) ?_
        obtain ⟨M3, e4, h⟩ := tm_bd_some h
        refine tm_iast hx hb hK hP hD hS (hF 126 (by decide)) (tm_mkI (n := 60) (by decide) (by decide)) e4 dX9_foreseeBreaks_19 (fun H locs hP hS => ?_)
        refine lv_iinc (v := v2 + 1) (lv' := [(2, .int (v2 + 1)), (0, .ref (g.2.2 + 0)), (1, .int w1)]) hx hb dX9_foreseeBreaks_20 hl (k := 2) rfl rfl (by decide) rfl (fun ls hl => ?_)
        refine lv_goto (tgt := 2) hx hb dX9_foreseeBreaks_23 (by decide) ?_
        exact ih (v2 + 1) M3 h _ _ _ hP hS (lv_sub hl [1, 2, 0] rfl)
set_option maxHeartbeats 4000000 in
set_option maxRecDepth 100000 in
theorem w_X9_foreseeBreaks_L63 {p : Program} {l : Launch} {e : Env} {s : State} {m : MethodId} {args : Array Value} {below : List Frame} {meth : Method} {c : Code} {g : tm_G} {A : Nat → Prop} {L : List Nat} (C0 : tm_C p m c cX9_foreseeBreaks 4 s args wsX9_foreseeBreaks RX9 meth none g A L tm_all) (w1 : Int32) (w2 : Int32) (k : Int32 → tm_M → Option tm_M) (M0 : tm_M) (hk : ∀ (v3 : Int32) (M : tm_M), k v3 M = some M0 → ∀ (H : Heap) (locs : List Loc) (ls : Array Slot), va_P g.1 vwCl (tm_ws g L M) H → va_S A s.heap H locs → lv_has ls 4 [(0, .ref (g.2.2 + 0)), (1, .int w1), (2, .int w2), (3, .int v3)] → W p l e { frames := 4, cells := 0, slots := 0, locals := 88 } s m args below meth c H locs 0 0 (MQ below (tm_QV g A L M0) args s 0 0 A) (F0 m 118 ls [])) : ∀ (n : Nat) (v3 : Int32) (M : tm_M), f_X9_foreseeBreaks_L63 k w1 w2 n v3 M = some M0 → ∀ (H : Heap) (locs : List Loc) (ls : Array Slot), va_P g.1 vwCl (tm_ws g L M) H → va_S A s.heap H locs → lv_has ls 4 [(0, .ref (g.2.2 + 0)), (1, .int w1), (2, .int w2), (3, .int v3)] → W p l e { frames := 4, cells := 0, slots := 0, locals := 88 } s m args below meth c H locs 0 0 (MQ below (tm_QV g A L M0) args s 0 0 A) (F0 m 63 ls []) := by
  obtain ⟨⟨hx, hb, hml, hown, hts⟩, hr, hlk, hK, hD, hG, hF⟩ := id C0
  intro n
  induction n with
  | zero =>
    intro v3 M h
    simp [f_X9_foreseeBreaks_L63] at h
  | succ n ih =>
    intro v3 M h H locs ls hP hS hl
    rw [f_X9_foreseeBreaks_L63] at h
    refine lv_iload_n hx hb dX9_foreseeBreaks_63 rfl (lv_at hl 3 rfl) ?_
    refine lv_iload_n hx hb dX9_foreseeBreaks_64 rfl (lv_at hl 1 rfl) ?_
    refine lv_icmp_ge (tgt := 118) hx hb dX9_foreseeBreaks_65 (by decide) (fun c14 => ?_) (fun c14 => ?_)
    · rw [if_pos c14] at h
      exact hk v3 M h _ _ _ hP hS (lv_sub hl [0, 1, 2, 3] rfl)
    · rw [if_neg c14] at h
      refine lv_iload_n hx hb dX9_foreseeBreaks_68 rfl (lv_at hl 3 rfl) ?_
      refine lv_bipush (v := 60) hx hb dX9_foreseeBreaks_69 (by decide) ?_
      refine lv_icmp_ge (tgt := 118) hx hb dX9_foreseeBreaks_71 (by decide) (fun c15 => ?_) (fun c15 => ?_)
      · rw [if_pos c15] at h
        exact hk v3 M h _ _ _ hP hS (lv_sub hl [0, 1, 2, 3] rfl)
      · rw [if_neg c15] at h
        refine lv_aload_n hx hb dX9_foreseeBreaks_74 rfl (lv_at hl 0 rfl) ?_
        refine tm_get (C := RX9) (T := TX9) (N := 15) (v := .ref (g.2.2 + 125)) hx hb hts nX9_foreseeBreaks_X9 hown hK hP (hF 0 (by decide)) (tm_mkX9 (by decide) _) rfl 13 (by decide) (hts _ kX9_foreseeBreaks_3) rfl dX9_foreseeBreaks_75 ?_
        refine lv_aload_n hx hb dX9_foreseeBreaks_78 rfl (lv_at hl 0 rfl) ?_
        refine tm_get (C := RX9) (T := TX9) (N := 15) (v := .ref (g.2.2 + 20)) hx hb hts nX9_foreseeBreaks_X9 hown hK hP (hF 0 (by decide)) (tm_mkX9 (by decide) _) rfl 3 (by decide) (hts _ kX9_foreseeBreaks_1) rfl dX9_foreseeBreaks_79 ?_
        refine tm_get (C := RX8) (T := TX8) (N := 4) (v := .int (M 20 3)) hx hb hts nX9_foreseeBreaks_X8 hown hK hP (hF 20 (by decide)) (tm_mkX8 (by decide) _) rfl 3 (by decide) (hts _ kX9_foreseeBreaks_5) rfl dX9_foreseeBreaks_82 ?_
        refine lv_iload_n hx hb dX9_foreseeBreaks_85 rfl (lv_at hl 3 rfl) ?_
        refine lv_iadd hx hb dX9_foreseeBreaks_86 ?_
        refine lv_aload_n hx hb dX9_foreseeBreaks_87 rfl (lv_at hl 0 rfl) ?_
        refine tm_get (C := RX9) (T := TX9) (N := 15) (v := .ref (g.2.2 + 20)) hx hb hts nX9_foreseeBreaks_X9 hown hK hP (hF 0 (by decide)) (tm_mkX9 (by decide) _) rfl 3 (by decide) (hts _ kX9_foreseeBreaks_1) rfl dX9_foreseeBreaks_88 ?_
        refine tm_get (C := RX8) (T := TX8) (N := 4) (v := .ref (g.2.2 + 21)) hx hb hts nX9_foreseeBreaks_X8 hown hK hP (hF 20 (by decide)) (tm_mkX8 (by decide) _) rfl 0 (by decide) (hts _ kX9_foreseeBreaks_6) rfl dX9_foreseeBreaks_91 ?_
        obtain ⟨r16, e17, h⟩ := tm_bd_some h
        refine tm_backI (r0 := r16.1) (M0 := r16.2) (fun _ q => q) (tm_callV (As := [.int ((M 20 3) + v3), .ref (g.2.2 + 21)]) (rest := []) ⟨hx, hb, hml, hown, hts⟩ hK hG hP hS (c_X1_pass l g A L hD hF M 125 ((M 20 3) + v3) 21 r16 e17) (cwV 2 hts gX9_foreseeBreaks_X1_pass rfl rfl rfl (by decide +kernel) ⟨Nat.le_of_ble_eq_true rfl, Nat.le_of_ble_eq_true rfl⟩) (tm_recv hK hP (hF 125 (by decide)) (ci := 0) rfl (tm_mkX1 (by decide) _)) rfl hl.1 (lv_room (Nat.le_of_ble_eq_true rfl)) dX9_foreseeBreaks_94 ⟨Nat.zero_le _, Nat.zero_le _⟩) hS (fun H locs hP hS => ?_)
        refine lv_if_eq (tgt := 112) hx hb dX9_foreseeBreaks_97 (by decide) (fun c18 => ?_) (fun c18 => ?_)
        · rw [if_pos c18] at h
          refine lv_iinc (v := v3 + 1) (lv' := [(3, .int (v3 + 1)), (0, .ref (g.2.2 + 0)), (1, .int w1), (2, .int w2)]) hx hb dX9_foreseeBreaks_112 hl (k := 3) rfl rfl (by decide) rfl (fun ls hl => ?_)
          refine lv_goto (tgt := 63) hx hb dX9_foreseeBreaks_115 (by decide) ?_
          exact ih (v3 + 1) r16.2 h _ _ _ hP hS (lv_sub hl [1, 2, 3, 0] rfl)
        · rw [if_neg c18] at h
          refine lv_aload_n hx hb dX9_foreseeBreaks_100 rfl (lv_at hl 0 rfl) ?_
          refine tm_get (C := RX9) (T := TX9) (N := 15) (v := .ref (g.2.2 + 126)) hx hb hts nX9_foreseeBreaks_X9 hown hK hP (hF 0 (by decide)) (tm_mkX9 (by decide) _) rfl 14 (by decide) (hts _ kX9_foreseeBreaks_0) rfl dX9_foreseeBreaks_101 ?_
          refine lv_iload_n hx hb dX9_foreseeBreaks_104 rfl (lv_at hl 3 rfl) ?_
          refine lv_dup2_11 hx hb dX9_foreseeBreaks_105 rfl rfl ?_
          obtain ⟨x19, e20, h⟩ := tm_bd_some h
          refine tm_iald hx hb hK hP (hF 126 (by decide)) (tm_mkI (n := 60) (by decide) (by decide)) e20 dX9_foreseeBreaks_106 ?_
          refine lv_iconst (v := 1) hx hb dX9_foreseeBreaks_107 (by decide) ?_
          refine lv_iload_n hx hb dX9_foreseeBreaks_108 rfl (lv_at hl 2 rfl) ?_
          refine lv_ishl hx hb dX9_foreseeBreaks_109 ?_
          refine lv_ior hx hb dX9_foreseeBreaks_110 ?_
          obtain ⟨M21, e22, h⟩ := tm_bd_some h
          refine tm_iast hx hb hK hP hD hS (hF 126 (by decide)) (tm_mkI (n := 60) (by decide) (by decide)) e22 dX9_foreseeBreaks_111 (fun H locs hP hS => ?_)
          refine lv_iinc (v := v3 + 1) (lv' := [(3, .int (v3 + 1)), (0, .ref (g.2.2 + 0)), (1, .int w1), (2, .int w2)]) hx hb dX9_foreseeBreaks_112 hl (k := 3) rfl rfl (by decide) rfl (fun ls hl => ?_)
          refine lv_goto (tgt := 63) hx hb dX9_foreseeBreaks_115 (by decide) ?_
          exact ih (v3 + 1) M21 h _ _ _ hP hS (lv_sub hl [1, 2, 3, 0] rfl)
set_option maxHeartbeats 4000000 in
set_option maxRecDepth 100000 in
theorem w_X9_foreseeBreaks_L28 {p : Program} {l : Launch} {e : Env} {s : State} {m : MethodId} {args : Array Value} {below : List Frame} {meth : Method} {c : Code} {g : tm_G} {A : Nat → Prop} {L : List Nat} (C0 : tm_C p m c cX9_foreseeBreaks 4 s args wsX9_foreseeBreaks RX9 meth none g A L tm_all) (w1 : Int32) (k : Int32 → tm_M → Option tm_M) (M0 : tm_M) (hk : ∀ (v2 : Int32) (M : tm_M), k v2 M = some M0 → ∀ (H : Heap) (locs : List Loc) (ls : Array Slot), va_P g.1 vwCl (tm_ws g L M) H → va_S A s.heap H locs → lv_has ls 4 [(0, .ref (g.2.2 + 0)), (1, .int w1), (2, .int v2)] → W p l e { frames := 4, cells := 0, slots := 0, locals := 88 } s m args below meth c H locs 0 0 (MQ below (tm_QV g A L M0) args s 0 0 A) (F0 m 124 ls [])) : ∀ (n : Nat) (v2 : Int32) (M : tm_M), f_X9_foreseeBreaks_L28 k w1 n v2 M = some M0 → ∀ (H : Heap) (locs : List Loc) (ls : Array Slot), va_P g.1 vwCl (tm_ws g L M) H → va_S A s.heap H locs → lv_has ls 4 [(0, .ref (g.2.2 + 0)), (1, .int w1), (2, .int v2)] → W p l e { frames := 4, cells := 0, slots := 0, locals := 88 } s m args below meth c H locs 0 0 (MQ below (tm_QV g A L M0) args s 0 0 A) (F0 m 28 ls []) := by
  obtain ⟨⟨hx, hb, hml, hown, hts⟩, hr, hlk, hK, hD, hG, hF⟩ := id C0
  intro n
  induction n with
  | zero =>
    intro v2 M h
    simp [f_X9_foreseeBreaks_L28] at h
  | succ n ih =>
    intro v2 M h H locs ls hP hS hl
    rw [f_X9_foreseeBreaks_L28] at h
    refine lv_iload_n hx hb dX9_foreseeBreaks_28 rfl (lv_at hl 2 rfl) ?_
    refine lv_aload_n hx hb dX9_foreseeBreaks_29 rfl (lv_at hl 0 rfl) ?_
    refine tm_get (C := RX9) (T := TX9) (N := 15) (v := .ref (g.2.2 + 20)) hx hb hts nX9_foreseeBreaks_X9 hown hK hP (hF 0 (by decide)) (tm_mkX9 (by decide) _) rfl 3 (by decide) (hts _ kX9_foreseeBreaks_1) rfl dX9_foreseeBreaks_30 ?_
    refine tm_get (C := RX8) (T := TX8) (N := 4) (v := .int (M 20 2)) hx hb hts nX9_foreseeBreaks_X8 hown hK hP (hF 20 (by decide)) (tm_mkX8 (by decide) _) rfl 2 (by decide) (hts _ kX9_foreseeBreaks_2) rfl dX9_foreseeBreaks_33 ?_
    refine lv_icmp_ge (tgt := 124) hx hb dX9_foreseeBreaks_36 (by decide) (fun c7 => ?_) (fun c7 => ?_)
    · rw [if_pos c7] at h
      exact hk v2 M h _ _ _ hP hS (lv_sub hl [0, 1, 2] rfl)
    · rw [if_neg c7] at h
      refine lv_iload_n hx hb dX9_foreseeBreaks_39 rfl (lv_at hl 2 rfl) ?_
      refine lv_bipush (v := 6) hx hb dX9_foreseeBreaks_40 (by decide) ?_
      refine lv_icmp_ge (tgt := 124) hx hb dX9_foreseeBreaks_42 (by decide) (fun c8 => ?_) (fun c8 => ?_)
      · rw [if_pos c8] at h
        exact hk v2 M h _ _ _ hP hS (lv_sub hl [0, 1, 2] rfl)
      · rw [if_neg c8] at h
        refine lv_aload_n hx hb dX9_foreseeBreaks_45 rfl (lv_at hl 0 rfl) ?_
        refine tm_get (C := RX9) (T := TX9) (N := 15) (v := .ref (g.2.2 + 125)) hx hb hts nX9_foreseeBreaks_X9 hown hK hP (hF 0 (by decide)) (tm_mkX9 (by decide) _) rfl 13 (by decide) (hts _ kX9_foreseeBreaks_3) rfl dX9_foreseeBreaks_46 ?_
        refine lv_aload_n hx hb dX9_foreseeBreaks_49 rfl (lv_at hl 0 rfl) ?_
        refine tm_get (C := RX9) (T := TX9) (N := 15) (v := .ref (g.2.2 + 20)) hx hb hts nX9_foreseeBreaks_X9 hown hK hP (hF 0 (by decide)) (tm_mkX9 (by decide) _) rfl 3 (by decide) (hts _ kX9_foreseeBreaks_1) rfl dX9_foreseeBreaks_50 ?_
        refine tm_get (C := RX8) (T := TX8) (N := 4) (v := .ref (g.2.2 + 22)) hx hb hts nX9_foreseeBreaks_X8 hown hK hP (hF 20 (by decide)) (tm_mkX8 (by decide) _) rfl 1 (by decide) (hts _ kX9_foreseeBreaks_4) rfl dX9_foreseeBreaks_53 ?_
        refine lv_iload_n hx hb dX9_foreseeBreaks_56 rfl (lv_at hl 2 rfl) ?_
        obtain ⟨x9, e10, h⟩ := tm_bd_some h
        refine tm_aald hx hb hK hP 3 (hF 22 (by decide)) (tm_mkL (by decide)) rfl e10 dX9_foreseeBreaks_57 ?_
        obtain ⟨M13, e12, h⟩ := tm_bd_some h
        refine tm_backV (M0 := M13) (fun _ q => q) (tm_callV (As := [.ref (g.2.2 + x9)]) (rest := []) ⟨hx, hb, hml, hown, hts⟩ hK hG hP hS (c_X1_copy l g A L hD hF M 125 x9 M13 e12) (cwV 1 hts gX9_foreseeBreaks_X1_copy rfl rfl rfl (by decide +kernel) ⟨Nat.le_of_ble_eq_true rfl, Nat.le_of_ble_eq_true rfl⟩) (tm_recv hK hP (hF 125 (by decide)) (ci := 0) rfl (tm_mkX1 (by decide) _)) rfl hl.1 (lv_room (Nat.le_of_ble_eq_true rfl)) dX9_foreseeBreaks_58 ⟨Nat.zero_le _, Nat.zero_le _⟩) hS (fun H locs hP hS => ?_)
        refine lv_iconst (v := 0) hx hb dX9_foreseeBreaks_61 (by decide) ?_
        refine lv_istore_n (lv' := [(3, .int 0), (0, .ref (g.2.2 + 0)), (1, .int w1), (2, .int v2)]) hx hb dX9_foreseeBreaks_62 rfl hl (by decide) rfl (fun ls hl => ?_)
        refine w_X9_foreseeBreaks_L63 C0 w1 v2 _ M0 (fun v23 M24 h H locs ls hP hS hl => ?_) 1000 0 M13 h _ _ _ hP hS (lv_sub hl [1, 2, 3, 0] rfl)
        refine lv_iinc (v := v2 + 1) (lv' := [(2, .int (v2 + 1)), (0, .ref (g.2.2 + 0)), (1, .int w1), (3, .int v23)]) hx hb dX9_foreseeBreaks_118 hl (k := 2) rfl rfl (by decide) rfl (fun ls hl => ?_)
        refine lv_goto (tgt := 28) hx hb dX9_foreseeBreaks_121 (by decide) ?_
        exact ih (v2 + 1) M24 h _ _ _ hP hS (lv_sub hl [1, 2, 0] rfl)
set_option maxHeartbeats 4000000 in
set_option maxRecDepth 100000 in
theorem c_X9_foreseeBreaks (l : Launch) (g : tm_G) (A : Nat → Prop) (L : List Nat) (hD : ∀ M, va_D A (tm_ws g L M)) (hF : ∀ o, tm_all o → o ∈ L) (M : tm_M) (p1 : Int32) (M0 : tm_M) (h : f_X9_foreseeBreaks M p1 = some M0) : Met l yX9_foreseeBreaks wsX9_foreseeBreaks { frames := 4, cells := 0, slots := 0, locals := 88 } (tm_PC g A L M [.ref (g.2.2 + 0), .int p1]) (tm_QV g A L M0) 0 0 A := by
  refine tm_start (cc := cX9_foreseeBreaks) (nL := 4) (ret := none) (F := tm_all) (plainFor_of_name (by decide)) rfl (Nat.le_of_ble_eq_true rfl) hD hF (fun p e s m args below meth c ls C0 hP hS hl => ?_)
  have hl : lv_has ls 4 [(0, .ref (g.2.2 + 0)), (1, .int p1)] := hl
  have C0 : tm_C p m c cX9_foreseeBreaks 4 s args wsX9_foreseeBreaks RX9 meth none g A L tm_all := C0
  obtain ⟨⟨hx, hb, hml, hown, hts⟩, hr, hlk, hK, hD, hG, hF⟩ := id C0
  unfold f_X9_foreseeBreaks at h
  refine lv_iconst (v := 0) hx hb dX9_foreseeBreaks_0 (by decide) ?_
  refine lv_istore_n (lv' := [(2, .int 0), (0, .ref (g.2.2 + 0)), (1, .int p1)]) hx hb dX9_foreseeBreaks_1 rfl hl (by decide) rfl (fun ls hl => ?_)
  refine w_X9_foreseeBreaks_L2 C0 p1 _ M0 (fun v5 M6 h H locs ls hP hS hl => ?_) 1000 0 M h _ _ _ hP hS (lv_sub hl [1, 2, 0] rfl)
  refine lv_iconst (v := 0) hx hb dX9_foreseeBreaks_26 (by decide) ?_
  refine lv_istore_n (lv' := [(2, .int 0), (0, .ref (g.2.2 + 0)), (1, .int p1)]) hx hb dX9_foreseeBreaks_27 rfl hl (by decide) rfl (fun ls hl => ?_)
  refine w_X9_foreseeBreaks_L28 C0 p1 _ M0 (fun v25 M26 h H locs ls hP hS hl => ?_) 1000 0 M6 h _ _ _ hP hS (lv_sub hl [1, 2, 0] rfl)
  exact tm_vret C0 (Option.some.inj h) hP hS dX9_foreseeBreaks_124
/-! X9_mostAtOnce -/
theorem nX9_mostAtOnce_X9 : ∀ w ∈ wsX90, w ∈ wsX9_mostAtOnce := by decide +kernel
theorem kX9_mostAtOnce_0 : Cond.fieldLink RX9 74 "QuarrelDesk" "brokenOn" "[I" ∈ wsX9_mostAtOnce := by decide +kernel
theorem kX9_mostAtOnce_1 : Cond.methodLink RX9 272 Lib.Math.max.name ∈ wsX9_mostAtOnce := by decide +kernel
theorem kX9_mostAtOnce_2 : Cond.static Lib.Math.max.name ∈ wsX9_mostAtOnce := by decide +kernel
theorem kX9_mostAtOnce_3 : Cond.initialized "java/lang/Math" ∈ wsX9_mostAtOnce := by decide +kernel
theorem kX9_mostAtOnce_4 : Cond.code Lib.Math.max.name Lib.Math.max.code 2 (some .int) ∈ wsX9_mostAtOnce := by decide +kernel
def f_X9_mostAtOnce_L5 (k : Int32 → Int32 → Option Int32) (M : tm_M) (w1 : Int32) (w2 : Int32) : Nat → Int32 → Int32 → Option Int32
  | 0, _, _ => none
  | n + 1, v3, v4 =>
    if w2 ≤ v4 then
      k v3 v4
    else
      if 60 ≤ v4 then
        k v3 v4
      else
        (tm_rd M 126 60 v4).bind fun x3 =>
        (f_J6_bitCount_0f7a4 (x3 &&& w1)).bind fun r5 =>
        (some (if v3 < r5 then r5 else v3)).bind fun x7 =>
        f_X9_mostAtOnce_L5 k M w1 w2 n x7 (v4 + 1)
def f_X9_mostAtOnce (M : tm_M) (p1 : Int32) (p2 : Int32) : Option Int32 :=
  f_X9_mostAtOnce_L5 (fun v8 v9 =>
    some v8) M p1 p2 1000 0 0
set_option maxHeartbeats 4000000 in
set_option maxRecDepth 100000 in
theorem w_X9_mostAtOnce_L5 {p : Program} {l : Launch} {e : Env} {s : State} {m : MethodId} {args : Array Value} {below : List Frame} {meth : Method} {c : Code} {g : tm_G} {A : Nat → Prop} {L : List Nat} (C0 : tm_C p m c cX9_mostAtOnce 5 s args wsX9_mostAtOnce RX9 meth (some .int) g A L tm_all) (M : tm_M) (w1 : Int32) (w2 : Int32) (k : Int32 → Int32 → Option Int32) (r0 : Int32) (hk : ∀ (v3 : Int32) (v4 : Int32), k v3 v4 = some r0 → ∀ (H : Heap) (locs : List Loc) (ls : Array Slot), va_P g.1 vwCl (tm_ws g L M) H → va_S A s.heap H locs → lv_has ls 5 [(0, .ref (g.2.2 + 0)), (1, .int w1), (2, .int w2), (3, .int v3), (4, .int v4)] → W p l e { frames := 1, cells := 0, slots := 0, locals := 21 } s m args below meth c H locs 0 0 (MQ below (tm_QI g A L (r0, M)) args s 0 0 A) (F0 m 41 ls [])) : ∀ (n : Nat) (v3 : Int32) (v4 : Int32), f_X9_mostAtOnce_L5 k M w1 w2 n v3 v4 = some r0 → ∀ (H : Heap) (locs : List Loc) (ls : Array Slot), va_P g.1 vwCl (tm_ws g L M) H → va_S A s.heap H locs → lv_has ls 5 [(0, .ref (g.2.2 + 0)), (1, .int w1), (2, .int w2), (3, .int v3), (4, .int v4)] → W p l e { frames := 1, cells := 0, slots := 0, locals := 21 } s m args below meth c H locs 0 0 (MQ below (tm_QI g A L (r0, M)) args s 0 0 A) (F0 m 5 ls []) := by
  obtain ⟨⟨hx, hb, hml, hown, hts⟩, hr, hlk, hK, hD, hG, hF⟩ := id C0
  intro n
  induction n with
  | zero =>
    intro v3 v4 h
    simp [f_X9_mostAtOnce_L5] at h
  | succ n ih =>
    intro v3 v4 h H locs ls hP hS hl
    rw [f_X9_mostAtOnce_L5] at h
    refine lv_iload hx hb dX9_mostAtOnce_5 (lv_at hl 4 rfl) ?_
    refine lv_iload_n hx hb dX9_mostAtOnce_7 rfl (lv_at hl 2 rfl) ?_
    refine lv_icmp_ge (tgt := 41) hx hb dX9_mostAtOnce_8 (by decide) (fun c1 => ?_) (fun c1 => ?_)
    · rw [if_pos c1] at h
      exact hk v3 v4 h _ _ _ hP hS (lv_sub hl [0, 1, 2, 3, 4] rfl)
    · rw [if_neg c1] at h
      refine lv_iload hx hb dX9_mostAtOnce_11 (lv_at hl 4 rfl) ?_
      refine lv_bipush (v := 60) hx hb dX9_mostAtOnce_13 (by decide) ?_
      refine lv_icmp_ge (tgt := 41) hx hb dX9_mostAtOnce_15 (by decide) (fun c2 => ?_) (fun c2 => ?_)
      · rw [if_pos c2] at h
        exact hk v3 v4 h _ _ _ hP hS (lv_sub hl [0, 1, 2, 3, 4] rfl)
      · rw [if_neg c2] at h
        refine lv_iload_n hx hb dX9_mostAtOnce_18 rfl (lv_at hl 3 rfl) ?_
        refine lv_aload_n hx hb dX9_mostAtOnce_19 rfl (lv_at hl 0 rfl) ?_
        refine tm_get (C := RX9) (T := TX9) (N := 15) (v := .ref (g.2.2 + 126)) hx hb hts nX9_mostAtOnce_X9 hown hK hP (hF 0 (by decide)) (tm_mkX9 (by decide) _) rfl 14 (by decide) (hts _ kX9_mostAtOnce_0) rfl dX9_mostAtOnce_20 ?_
        refine lv_iload hx hb dX9_mostAtOnce_23 (lv_at hl 4 rfl) ?_
        obtain ⟨x3, e4, h⟩ := tm_bd_some h
        refine tm_iald hx hb hK hP (hF 126 (by decide)) (tm_mkI (n := 60) (by decide) (by decide)) e4 dX9_mostAtOnce_25 ?_
        refine lv_iload_n hx hb dX9_mostAtOnce_26 rfl (lv_at hl 1 rfl) ?_
        refine lv_iand hx hb dX9_mostAtOnce_27 ?_
        obtain ⟨r5, e6, h⟩ := tm_bd_some h
        refine tm_backI (r0 := r5) (M0 := M) (fun _ q => q) (tm_callS (As := [.int (x3 &&& w1)]) (rest := [.int v3]) ⟨hx, hb, hml, hown, hts⟩ hK hG hP hS (c_J6_bitCount_0f7a4 l g A L hD hF M (x3 &&& w1) r5 e6) (va_cwS 1 hts gX9_mostAtOnce_J6_bitCount_0f7a4 rfl rfl rfl (by decide +kernel) ⟨Nat.le_of_ble_eq_true rfl, Nat.le_of_ble_eq_true rfl⟩) rfl hl.1 (lv_room (Nat.le_of_ble_eq_true rfl)) dX9_mostAtOnce_28 ⟨Nat.zero_le _, Nat.zero_le _⟩) hS (fun H locs hP hS => ?_)
        refine va_mmax hx hb (hml.trans hl.1.symm) hown (hts _ kX9_mostAtOnce_1) (hts _ kX9_mostAtOnce_2) (hts _ kX9_mostAtOnce_3) (hts _ kX9_mostAtOnce_4) (Nat.le_of_ble_eq_true rfl) (Nat.le_of_ble_eq_true rfl) (Nat.zero_le _) (Nat.zero_le _) dX9_mostAtOnce_31 ?_
        refine tm_nam h (fun x7 h => ?_)
        refine lv_istore_n (lv' := [(3, .int x7), (0, .ref (g.2.2 + 0)), (1, .int w1), (2, .int w2), (4, .int v4)]) hx hb dX9_mostAtOnce_34 rfl hl (by decide) rfl (fun ls hl => ?_)
        refine lv_iinc (v := v4 + 1) (lv' := [(4, .int (v4 + 1)), (3, .int x7), (0, .ref (g.2.2 + 0)), (1, .int w1), (2, .int w2)]) hx hb dX9_mostAtOnce_35 hl (k := 4) rfl rfl (by decide) rfl (fun ls hl => ?_)
        refine lv_goto (tgt := 5) hx hb dX9_mostAtOnce_38 (by decide) ?_
        exact ih x7 (v4 + 1) h _ _ _ hP hS (lv_sub hl [2, 3, 4, 1, 0] rfl)
set_option maxHeartbeats 4000000 in
set_option maxRecDepth 100000 in
theorem c_X9_mostAtOnce (l : Launch) (g : tm_G) (A : Nat → Prop) (L : List Nat) (hD : ∀ M, va_D A (tm_ws g L M)) (hF : ∀ o, tm_all o → o ∈ L) (M : tm_M) (p1 : Int32) (p2 : Int32) (r0 : Int32) (h : f_X9_mostAtOnce M p1 p2 = some r0) : Met l yX9_mostAtOnce wsX9_mostAtOnce { frames := 1, cells := 0, slots := 0, locals := 21 } (tm_PC g A L M [.ref (g.2.2 + 0), .int p1, .int p2]) (tm_QI g A L (r0, M)) 0 0 A := by
  refine tm_start (cc := cX9_mostAtOnce) (nL := 5) (ret := (some .int)) (F := tm_all) (plainFor_of_name (by decide)) rfl (Nat.le_of_ble_eq_true rfl) hD hF (fun p e s m args below meth c ls C0 hP hS hl => ?_)
  have hl : lv_has ls 5 [(0, .ref (g.2.2 + 0)), (1, .int p1), (2, .int p2)] := hl
  have C0 : tm_C p m c cX9_mostAtOnce 5 s args wsX9_mostAtOnce RX9 meth (some .int) g A L tm_all := C0
  obtain ⟨⟨hx, hb, hml, hown, hts⟩, hr, hlk, hK, hD, hG, hF⟩ := id C0
  unfold f_X9_mostAtOnce at h
  refine lv_iconst (v := 0) hx hb dX9_mostAtOnce_0 (by decide) ?_
  refine lv_istore_n (lv' := [(3, .int 0), (0, .ref (g.2.2 + 0)), (1, .int p1), (2, .int p2)]) hx hb dX9_mostAtOnce_1 rfl hl (by decide) rfl (fun ls hl => ?_)
  refine lv_iconst (v := 0) hx hb dX9_mostAtOnce_2 (by decide) ?_
  refine lv_istore (lv' := [(4, .int 0), (3, .int 0), (0, .ref (g.2.2 + 0)), (1, .int p1), (2, .int p2)]) hx hb dX9_mostAtOnce_3 hl (by decide) rfl (fun ls hl => ?_)
  refine w_X9_mostAtOnce_L5 C0 M p1 p2 _ r0 (fun v8 v9 h H locs ls hP hS hl => ?_) 1000 0 0 h _ _ _ hP hS (lv_sub hl [2, 3, 4, 1, 0] rfl)
  refine lv_iload_n hx hb dX9_mostAtOnce_41 rfl (lv_at hl 3 rfl) ?_
  exact tm_iret C0 (by rw [Option.some.inj h]) hP hS dX9_mostAtOnce_42
/-! X9_take -/
theorem nX9_take_X9 : ∀ w ∈ wsX90, w ∈ wsX9_take := by decide +kernel
theorem kX9_take_0 : Cond.fieldLink RX9 43 "QuarrelDesk" "now" "LQuarrelDesk$Year;" ∈ wsX9_take := by decide +kernel
theorem nX9_take_X8 : ∀ w ∈ wsX80, w ∈ wsX9_take := by decide +kernel
theorem kX9_take_1 : Cond.fieldLink RX9 89 "QuarrelDesk$Year" "couples" "I" ∈ wsX9_take := by decide +kernel
def f_X9_take_L60 (k : Int32 → Int32 → Int32 → Option (Int32 × tm_M)) (M : tm_M) (w1 : Int32) (w2 : Int32) (w3 : Int32) : Nat → Int32 → Int32 → Int32 → Option (Int32 × tm_M)
  | 0, _, _, _ => none
  | n + 1, v4, v5, v6 =>
    if (1 <<< ((M 20 2) &&& 31)) ≤ v6 then
      k v4 v5 v6
    else
      (f_J6_bitCount_0f7a4 v6).bind fun r15 =>
      if r15 = w1 then
        (f_X9_mostAtOnce M v6 w2).bind fun r19 =>
        if v5 ≤ r19 then
          f_X9_take_L60 k M w1 w2 w3 n v4 v5 (v6 + 1)
        else
          f_X9_take_L60 k M w1 w2 w3 n v6 r19 (v6 + 1)
      else
        if v5 ≤ v5 then
          f_X9_take_L60 k M w1 w2 w3 n v4 v5 (v6 + 1)
        else
          f_X9_take_L60 k M w1 w2 w3 n v6 v5 (v6 + 1)
def f_X9_take (M : tm_M) (p1 : Int32) (p2 : Int32) (p3 : Int32) : Option (Int32 × tm_M) :=
  (f_X9_outside p1 0 6).bind fun r1 =>
  if r1 = 0 then
    (f_X9_outside p2 1 60).bind fun r4 =>
    if r4 = 0 then
      (f_X9_outside p3 0 1).bind fun r7 =>
      if r7 = 0 then
        if p1 ≤ (M 20 2) then
          (f_X9_foreseeBreaks M p2).bind fun M13 =>
          f_X9_take_L60 (fun v22 v23 v24 =>
            if p3 = 0 then
              some (v22, M13)
            else
              some (v23, M13)) M13 p1 p2 p3 1000 0 7 0
        else
          some ((-1), M)
      else
        some ((-3), M)
    else
      some ((-3), M)
  else
    some ((-3), M)
set_option maxHeartbeats 4000000 in
set_option maxRecDepth 100000 in
theorem w_X9_take_L60 {p : Program} {l : Launch} {e : Env} {s : State} {m : MethodId} {args : Array Value} {below : List Frame} {meth : Method} {c : Code} {g : tm_G} {A : Nat → Prop} {L : List Nat} (C0 : tm_C p m c cX9_take 8 s args wsX9_take RX9 meth (some .int) g A L tm_all) (M : tm_M) (w1 : Int32) (w2 : Int32) (w3 : Int32) (k : Int32 → Int32 → Int32 → Option (Int32 × tm_M)) (R0 : Int32 × tm_M) (hk : ∀ (v4 : Int32) (v5 : Int32) (v6 : Int32), k v4 v5 v6 = some R0 → ∀ (H : Heap) (locs : List Loc) (ls : Array Slot), va_P g.1 vwCl (tm_ws g L M) H → va_S A s.heap H locs → lv_has ls 8 [(0, .ref (g.2.2 + 0)), (1, .int w1), (2, .int w2), (3, .int w3), (4, .int v4), (5, .int v5), (6, .int v6)] → W p l e { frames := 5, cells := 0, slots := 0, locals := 111 } s m args below meth c H locs 0 0 (MQ below (tm_QI g A L R0) args s 0 0 A) (F0 m 118 ls [])) : ∀ (n : Nat) (v4 : Int32) (v5 : Int32) (v6 : Int32), f_X9_take_L60 k M w1 w2 w3 n v4 v5 v6 = some R0 → ∀ (H : Heap) (locs : List Loc) (ls : Array Slot), va_P g.1 vwCl (tm_ws g L M) H → va_S A s.heap H locs → lv_has ls 8 [(0, .ref (g.2.2 + 0)), (1, .int w1), (2, .int w2), (3, .int w3), (4, .int v4), (5, .int v5), (6, .int v6)] → W p l e { frames := 5, cells := 0, slots := 0, locals := 111 } s m args below meth c H locs 0 0 (MQ below (tm_QI g A L R0) args s 0 0 A) (F0 m 60 ls []) := by
  obtain ⟨⟨hx, hb, hml, hown, hts⟩, hr, hlk, hK, hD, hG, hF⟩ := id C0
  intro n
  induction n with
  | zero =>
    intro v4 v5 v6 h
    simp [f_X9_take_L60] at h
  | succ n ih =>
    intro v4 v5 v6 h H locs ls hP hS hl
    rw [f_X9_take_L60] at h
    refine lv_iload hx hb dX9_take_60 (lv_at hl 6 rfl) ?_
    refine lv_iconst (v := 1) hx hb dX9_take_62 (by decide) ?_
    refine lv_aload_n hx hb dX9_take_63 rfl (lv_at hl 0 rfl) ?_
    refine tm_get (C := RX9) (T := TX9) (N := 15) (v := .ref (g.2.2 + 20)) hx hb hts nX9_take_X9 hown hK hP (hF 0 (by decide)) (tm_mkX9 (by decide) _) rfl 3 (by decide) (hts _ kX9_take_0) rfl dX9_take_64 ?_
    refine tm_get (C := RX8) (T := TX8) (N := 4) (v := .int (M 20 2)) hx hb hts nX9_take_X8 hown hK hP (hF 20 (by decide)) (tm_mkX8 (by decide) _) rfl 2 (by decide) (hts _ kX9_take_1) rfl dX9_take_67 ?_
    refine lv_ishl hx hb dX9_take_70 ?_
    refine lv_icmp_ge (tgt := 118) hx hb dX9_take_71 (by decide) (fun c14 => ?_) (fun c14 => ?_)
    · rw [if_pos c14] at h
      exact hk v4 v5 v6 h _ _ _ hP hS (lv_sub hl [0, 1, 2, 3, 4, 5, 6] rfl)
    · rw [if_neg c14] at h
      refine lv_iload hx hb dX9_take_74 (lv_at hl 6 rfl) ?_
      obtain ⟨r15, e16, h⟩ := tm_bd_some h
      refine tm_backI (r0 := r15) (M0 := M) (fun _ q => q) (tm_callS (As := [.int v6]) (rest := []) ⟨hx, hb, hml, hown, hts⟩ hK hG hP hS (c_J6_bitCount_0f7a4 l g A L hD hF M v6 r15 e16) (va_cwS 1 hts gX9_take_J6_bitCount_0f7a4 rfl rfl rfl (by decide +kernel) ⟨Nat.le_of_ble_eq_true rfl, Nat.le_of_ble_eq_true rfl⟩) rfl hl.1 (lv_room (Nat.le_of_ble_eq_true rfl)) dX9_take_76 ⟨Nat.zero_le _, Nat.zero_le _⟩) hS (fun H locs hP hS => ?_)
      refine lv_iload_n hx hb dX9_take_79 rfl (lv_at hl 1 rfl) ?_
      refine lv_icmp_ne (tgt := 93) hx hb dX9_take_80 (by decide) (fun c17 => ?_) (fun c17 => ?_)
      · rw [if_neg c17] at h
        refine lv_iload hx hb dX9_take_93 (lv_at hl 5 rfl) ?_
        refine lv_istore (lv' := [(7, .int v5), (0, .ref (g.2.2 + 0)), (1, .int w1), (2, .int w2), (3, .int w3), (4, .int v4), (5, .int v5), (6, .int v6)]) hx hb dX9_take_95 hl (by decide) rfl (fun ls hl => ?_)
        refine lv_iload hx hb dX9_take_97 (lv_at hl 0 rfl) ?_
        refine lv_iload hx hb dX9_take_99 (lv_at hl 6 rfl) ?_
        refine lv_icmp_ge (tgt := 112) hx hb dX9_take_101 (by decide) (fun c18 => ?_) (fun c18 => ?_)
        · rw [if_pos c18] at h
          refine lv_iinc (v := v6 + 1) (lv' := [(6, .int (v6 + 1)), (7, .int v5), (0, .ref (g.2.2 + 0)), (1, .int w1), (2, .int w2), (3, .int w3), (4, .int v4), (5, .int v5)]) hx hb dX9_take_112 hl (k := 7) rfl rfl (by decide) rfl (fun ls hl => ?_)
          refine lv_goto (tgt := 60) hx hb dX9_take_115 (by decide) ?_
          exact ih v4 v5 (v6 + 1) h _ _ _ hP hS (lv_sub hl [2, 3, 4, 5, 6, 7, 0] rfl)
        · rw [if_neg c18] at h
          refine lv_iload hx hb dX9_take_104 (lv_at hl 0 rfl) ?_
          refine lv_istore (lv' := [(5, .int v5), (7, .int v5), (0, .ref (g.2.2 + 0)), (1, .int w1), (2, .int w2), (3, .int w3), (4, .int v4), (6, .int v6)]) hx hb dX9_take_106 hl (by decide) rfl (fun ls hl => ?_)
          refine lv_iload hx hb dX9_take_108 (lv_at hl 7 rfl) ?_
          refine lv_istore (lv' := [(4, .int v6), (5, .int v5), (7, .int v5), (0, .ref (g.2.2 + 0)), (1, .int w1), (2, .int w2), (3, .int w3), (6, .int v6)]) hx hb dX9_take_110 hl (by decide) rfl (fun ls hl => ?_)
          refine lv_iinc (v := v6 + 1) (lv' := [(6, .int (v6 + 1)), (4, .int v6), (5, .int v5), (7, .int v5), (0, .ref (g.2.2 + 0)), (1, .int w1), (2, .int w2), (3, .int w3)]) hx hb dX9_take_112 hl (k := 7) rfl rfl (by decide) rfl (fun ls hl => ?_)
          refine lv_goto (tgt := 60) hx hb dX9_take_115 (by decide) ?_
          exact ih v6 v5 (v6 + 1) h _ _ _ hP hS (lv_sub hl [4, 5, 6, 7, 1, 2, 0] rfl)
      · rw [if_pos c17] at h
        refine lv_aload_n hx hb dX9_take_83 rfl (lv_at hl 0 rfl) ?_
        refine lv_iload hx hb dX9_take_84 (lv_at hl 6 rfl) ?_
        refine lv_iload_n hx hb dX9_take_86 rfl (lv_at hl 2 rfl) ?_
        obtain ⟨r19, e20, h⟩ := tm_bd_some h
        refine tm_backI (r0 := r19) (M0 := M) (fun _ q => q) (tm_callV (As := [.int v6, .int w2]) (rest := []) ⟨hx, hb, hml, hown, hts⟩ hK hG hP hS (c_X9_mostAtOnce l g A L hD hF M v6 w2 r19 e20) (cwV 2 hts gX9_take_X9_mostAtOnce rfl rfl rfl (by decide +kernel) ⟨Nat.le_of_ble_eq_true rfl, Nat.le_of_ble_eq_true rfl⟩) (tm_recv hK hP (hF 0 (by decide)) (ci := 8) rfl (tm_mkX9 (by decide) _)) rfl hl.1 (lv_room (Nat.le_of_ble_eq_true rfl)) dX9_take_87 ⟨Nat.zero_le _, Nat.zero_le _⟩) hS (fun H locs hP hS => ?_)
        refine lv_goto (tgt := 95) hx hb dX9_take_90 (by decide) ?_
        refine lv_istore (lv' := [(7, .int r19), (0, .ref (g.2.2 + 0)), (1, .int w1), (2, .int w2), (3, .int w3), (4, .int v4), (5, .int v5), (6, .int v6)]) hx hb dX9_take_95 hl (by decide) rfl (fun ls hl => ?_)
        refine lv_iload hx hb dX9_take_97 (lv_at hl 0 rfl) ?_
        refine lv_iload hx hb dX9_take_99 (lv_at hl 6 rfl) ?_
        refine lv_icmp_ge (tgt := 112) hx hb dX9_take_101 (by decide) (fun c21 => ?_) (fun c21 => ?_)
        · rw [if_pos c21] at h
          refine lv_iinc (v := v6 + 1) (lv' := [(6, .int (v6 + 1)), (7, .int r19), (0, .ref (g.2.2 + 0)), (1, .int w1), (2, .int w2), (3, .int w3), (4, .int v4), (5, .int v5)]) hx hb dX9_take_112 hl (k := 7) rfl rfl (by decide) rfl (fun ls hl => ?_)
          refine lv_goto (tgt := 60) hx hb dX9_take_115 (by decide) ?_
          exact ih v4 v5 (v6 + 1) h _ _ _ hP hS (lv_sub hl [2, 3, 4, 5, 6, 7, 0] rfl)
        · rw [if_neg c21] at h
          refine lv_iload hx hb dX9_take_104 (lv_at hl 0 rfl) ?_
          refine lv_istore (lv' := [(5, .int r19), (7, .int r19), (0, .ref (g.2.2 + 0)), (1, .int w1), (2, .int w2), (3, .int w3), (4, .int v4), (6, .int v6)]) hx hb dX9_take_106 hl (by decide) rfl (fun ls hl => ?_)
          refine lv_iload hx hb dX9_take_108 (lv_at hl 7 rfl) ?_
          refine lv_istore (lv' := [(4, .int v6), (5, .int r19), (7, .int r19), (0, .ref (g.2.2 + 0)), (1, .int w1), (2, .int w2), (3, .int w3), (6, .int v6)]) hx hb dX9_take_110 hl (by decide) rfl (fun ls hl => ?_)
          refine lv_iinc (v := v6 + 1) (lv' := [(6, .int (v6 + 1)), (4, .int v6), (5, .int r19), (7, .int r19), (0, .ref (g.2.2 + 0)), (1, .int w1), (2, .int w2), (3, .int w3)]) hx hb dX9_take_112 hl (k := 7) rfl rfl (by decide) rfl (fun ls hl => ?_)
          refine lv_goto (tgt := 60) hx hb dX9_take_115 (by decide) ?_
          exact ih v6 r19 (v6 + 1) h _ _ _ hP hS (lv_sub hl [4, 5, 6, 7, 1, 2, 0] rfl)
set_option maxHeartbeats 4000000 in
set_option maxRecDepth 100000 in
theorem c_X9_take (l : Launch) (g : tm_G) (A : Nat → Prop) (L : List Nat) (hD : ∀ M, va_D A (tm_ws g L M)) (hF : ∀ o, tm_all o → o ∈ L) (M : tm_M) (p1 : Int32) (p2 : Int32) (p3 : Int32) (R0 : Int32 × tm_M) (h : f_X9_take M p1 p2 p3 = some R0) : Met l yX9_take wsX9_take { frames := 5, cells := 0, slots := 0, locals := 111 } (tm_PC g A L M [.ref (g.2.2 + 0), .int p1, .int p2, .int p3]) (tm_QI g A L R0) 0 0 A := by
  refine tm_start (cc := cX9_take) (nL := 8) (ret := (some .int)) (F := tm_all) (plainFor_of_name (by decide)) rfl (Nat.le_of_ble_eq_true rfl) hD hF (fun p e s m args below meth c ls C0 hP hS hl => ?_)
  have hl : lv_has ls 8 [(0, .ref (g.2.2 + 0)), (1, .int p1), (2, .int p2), (3, .int p3)] := hl
  have C0 : tm_C p m c cX9_take 8 s args wsX9_take RX9 meth (some .int) g A L tm_all := C0
  obtain ⟨⟨hx, hb, hml, hown, hts⟩, hr, hlk, hK, hD, hG, hF⟩ := id C0
  unfold f_X9_take at h
  refine lv_iload_n hx hb dX9_take_0 rfl (lv_at hl 1 rfl) ?_
  refine lv_iconst (v := 0) hx hb dX9_take_1 (by decide) ?_
  refine lv_bipush (v := 6) hx hb dX9_take_2 (by decide) ?_
  obtain ⟨r1, e2, h⟩ := tm_bd_some h
  refine tm_backI (r0 := r1) (M0 := M) (fun _ q => q) (tm_callS (As := [.int p1, .int 0, .int 6]) (rest := []) ⟨hx, hb, hml, hown, hts⟩ hK hG hP hS (c_X9_outside l g A L hD hF M p1 0 6 r1 e2) (va_cwS 3 hts gX9_take_X9_outside rfl rfl rfl (by decide +kernel) ⟨Nat.le_of_ble_eq_true rfl, Nat.le_of_ble_eq_true rfl⟩) rfl hl.1 (lv_room (Nat.le_of_ble_eq_true rfl)) dX9_take_4 ⟨Nat.zero_le _, Nat.zero_le _⟩) hS (fun H locs hP hS => ?_)
  refine lv_if_ne (tgt := 29) hx hb dX9_take_7 (by decide) (fun c3 => ?_) (fun c3 => ?_)
  · rw [if_neg c3] at h
    refine lv_bipush (v := (-3)) hx hb dX9_take_29 (by decide) ?_
    exact tm_iret C0 (Option.some.inj h) hP hS dX9_take_31
  · rw [if_pos c3] at h
    refine lv_iload_n hx hb dX9_take_10 rfl (lv_at hl 2 rfl) ?_
    refine lv_iconst (v := 1) hx hb dX9_take_11 (by decide) ?_
    refine lv_bipush (v := 60) hx hb dX9_take_12 (by decide) ?_
    obtain ⟨r4, e5, h⟩ := tm_bd_some h
    refine tm_backI (r0 := r4) (M0 := M) (fun _ q => q) (tm_callS (As := [.int p2, .int 1, .int 60]) (rest := []) ⟨hx, hb, hml, hown, hts⟩ hK hG hP hS (c_X9_outside l g A L hD hF M p2 1 60 r4 e5) (va_cwS 3 hts gX9_take_X9_outside rfl rfl rfl (by decide +kernel) ⟨Nat.le_of_ble_eq_true rfl, Nat.le_of_ble_eq_true rfl⟩) rfl hl.1 (lv_room (Nat.le_of_ble_eq_true rfl)) dX9_take_14 ⟨Nat.zero_le _, Nat.zero_le _⟩) hS (fun H locs hP hS => ?_)
    refine lv_if_ne (tgt := 29) hx hb dX9_take_17 (by decide) (fun c6 => ?_) (fun c6 => ?_)
    · rw [if_neg c6] at h
      refine lv_bipush (v := (-3)) hx hb dX9_take_29 (by decide) ?_
      exact tm_iret C0 (Option.some.inj h) hP hS dX9_take_31
    · rw [if_pos c6] at h
      refine lv_iload_n hx hb dX9_take_20 rfl (lv_at hl 3 rfl) ?_
      refine lv_iconst (v := 0) hx hb dX9_take_21 (by decide) ?_
      refine lv_iconst (v := 1) hx hb dX9_take_22 (by decide) ?_
      obtain ⟨r7, e8, h⟩ := tm_bd_some h
      refine tm_backI (r0 := r7) (M0 := M) (fun _ q => q) (tm_callS (As := [.int p3, .int 0, .int 1]) (rest := []) ⟨hx, hb, hml, hown, hts⟩ hK hG hP hS (c_X9_outside l g A L hD hF M p3 0 1 r7 e8) (va_cwS 3 hts gX9_take_X9_outside rfl rfl rfl (by decide +kernel) ⟨Nat.le_of_ble_eq_true rfl, Nat.le_of_ble_eq_true rfl⟩) rfl hl.1 (lv_room (Nat.le_of_ble_eq_true rfl)) dX9_take_23 ⟨Nat.zero_le _, Nat.zero_le _⟩) hS (fun H locs hP hS => ?_)
      refine lv_if_eq (tgt := 32) hx hb dX9_take_26 (by decide) (fun c9 => ?_) (fun c9 => ?_)
      · rw [if_pos c9] at h
        refine lv_iload_n hx hb dX9_take_32 rfl (lv_at hl 1 rfl) ?_
        refine lv_aload_n hx hb dX9_take_33 rfl (lv_at hl 0 rfl) ?_
        refine tm_get (C := RX9) (T := TX9) (N := 15) (v := .ref (g.2.2 + 20)) hx hb hts nX9_take_X9 hown hK hP (hF 0 (by decide)) (tm_mkX9 (by decide) _) rfl 3 (by decide) (hts _ kX9_take_0) rfl dX9_take_34 ?_
        refine tm_get (C := RX8) (T := TX8) (N := 4) (v := .int (M 20 2)) hx hb hts nX9_take_X8 hown hK hP (hF 20 (by decide)) (tm_mkX8 (by decide) _) rfl 2 (by decide) (hts _ kX9_take_1) rfl dX9_take_37 ?_
        refine lv_icmp_le (tgt := 45) hx hb dX9_take_40 (by decide) (fun c10 => ?_) (fun c10 => ?_)
        · rw [if_pos c10] at h
          refine lv_aload_n hx hb dX9_take_45 rfl (lv_at hl 0 rfl) ?_
          refine lv_iload_n hx hb dX9_take_46 rfl (lv_at hl 2 rfl) ?_
          obtain ⟨M13, e12, h⟩ := tm_bd_some h
          refine tm_backV (M0 := M13) (fun _ q => q) (tm_callV (As := [.int p2]) (rest := []) ⟨hx, hb, hml, hown, hts⟩ hK hG hP hS (c_X9_foreseeBreaks l g A L hD hF M p2 M13 e12) (cwV 1 hts gX9_take_X9_foreseeBreaks rfl rfl rfl (by decide +kernel) ⟨Nat.le_of_ble_eq_true rfl, Nat.le_of_ble_eq_true rfl⟩) (tm_recv hK hP (hF 0 (by decide)) (ci := 8) rfl (tm_mkX9 (by decide) _)) rfl hl.1 (lv_room (Nat.le_of_ble_eq_true rfl)) dX9_take_47 ⟨Nat.zero_le _, Nat.zero_le _⟩) hS (fun H locs hP hS => ?_)
          refine lv_iconst (v := 0) hx hb dX9_take_50 (by decide) ?_
          refine lv_istore (lv' := [(4, .int 0), (0, .ref (g.2.2 + 0)), (1, .int p1), (2, .int p2), (3, .int p3)]) hx hb dX9_take_51 hl (by decide) rfl (fun ls hl => ?_)
          refine lv_bipush (v := 7) hx hb dX9_take_53 (by decide) ?_
          refine lv_istore (lv' := [(5, .int 7), (4, .int 0), (0, .ref (g.2.2 + 0)), (1, .int p1), (2, .int p2), (3, .int p3)]) hx hb dX9_take_55 hl (by decide) rfl (fun ls hl => ?_)
          refine lv_iconst (v := 0) hx hb dX9_take_57 (by decide) ?_
          refine lv_istore (lv' := [(6, .int 0), (5, .int 7), (4, .int 0), (0, .ref (g.2.2 + 0)), (1, .int p1), (2, .int p2), (3, .int p3)]) hx hb dX9_take_58 hl (by decide) rfl (fun ls hl => ?_)
          refine w_X9_take_L60 C0 M13 p1 p2 p3 _ R0 (fun v22 v23 v24 h H locs ls hP hS hl => ?_) 1000 0 7 0 h _ _ _ hP hS (lv_sub hl [3, 4, 5, 6, 2, 1, 0] rfl)
          refine lv_iload_n hx hb dX9_take_118 rfl (lv_at hl 3 rfl) ?_
          refine lv_if_ne (tgt := 127) hx hb dX9_take_119 (by decide) (fun c25 => ?_) (fun c25 => ?_)
          · rw [if_neg c25] at h
            refine lv_iload hx hb dX9_take_127 (lv_at hl 5 rfl) ?_
            exact tm_iret C0 (Option.some.inj h) hP hS dX9_take_129
          · rw [if_pos c25] at h
            refine lv_iload hx hb dX9_take_122 (lv_at hl 4 rfl) ?_
            refine lv_goto (tgt := 129) hx hb dX9_take_124 (by decide) ?_
            exact tm_iret C0 (Option.some.inj h) hP hS dX9_take_129
        · rw [if_neg c10] at h
          refine lv_iconst (v := (-1)) hx hb dX9_take_43 (by decide) ?_
          exact tm_iret C0 (Option.some.inj h) hP hS dX9_take_44
      · rw [if_neg c9] at h
        refine lv_bipush (v := (-3)) hx hb dX9_take_29 (by decide) ?_
        exact tm_iret C0 (Option.some.inj h) hP hS dX9_take_31
/-! X9_seen -/
theorem nX9_seen_X9 : ∀ w ∈ wsX90, w ∈ wsX9_seen := by decide +kernel
theorem kX9_seen_0 : Cond.fieldLink RX9 224 "QuarrelDesk" "seenMany" "I" ∈ wsX9_seen := by decide +kernel
theorem kX9_seen_1 : Cond.fieldLink RX9 57 "QuarrelDesk" "seenCouples" "[I" ∈ wsX9_seen := by decide +kernel
theorem kX9_seen_2 : Cond.fieldLink RX9 61 "QuarrelDesk" "seenDays" "[I" ∈ wsX9_seen := by decide +kernel
theorem kX9_seen_3 : Cond.fieldLink RX9 64 "QuarrelDesk" "seenStrains" "[I" ∈ wsX9_seen := by decide +kernel
def f_X9_seen (M : tm_M) (p1 : Int32) (p2 : Int32) (p3 : Int32) : Option (Int32 × tm_M) :=
  (f_X9_unknown M p1).bind fun r1 =>
  if r1 = 0 then
    (f_X9_outside p2 1 30).bind fun r4 =>
    if r4 = 0 then
      (f_X9_outside p3 0 99).bind fun r7 =>
      if r7 = 0 then
        if (M 0 12) < 6 then
          (tm_wr M 122 6 (M 0 12) p1).bind fun M11 =>
          (tm_wr M11 123 6 (M11 0 12) p2).bind fun M13 =>
          (tm_wr M13 124 6 (M13 0 12) p3).bind fun M15 =>
          (some (tm_st M15 0 12 ((M15 0 12) + 1))).bind fun M17 =>
          some (M17 0 12, M17)
        else
          some ((-5), M)
      else
        some ((-3), M)
    else
      some ((-3), M)
  else
    some ((-2), M)
set_option maxHeartbeats 4000000 in
set_option maxRecDepth 100000 in
theorem c_X9_seen (l : Launch) (g : tm_G) (A : Nat → Prop) (L : List Nat) (hD : ∀ M, va_D A (tm_ws g L M)) (hF : ∀ o, tm_all o → o ∈ L) (M : tm_M) (p1 : Int32) (p2 : Int32) (p3 : Int32) (R0 : Int32 × tm_M) (h : f_X9_seen M p1 p2 p3 = some R0) : Met l yX9_seen wsX9_seen { frames := 1, cells := 0, slots := 0, locals := 22 } (tm_PC g A L M [.ref (g.2.2 + 0), .int p1, .int p2, .int p3]) (tm_QI g A L R0) 0 0 A := by
  refine tm_start (cc := cX9_seen) (nL := 4) (ret := (some .int)) (F := tm_all) (plainFor_of_name (by decide)) rfl (Nat.le_of_ble_eq_true rfl) hD hF (fun p e s m args below meth c ls C0 hP hS hl => ?_)
  have hl : lv_has ls 4 [(0, .ref (g.2.2 + 0)), (1, .int p1), (2, .int p2), (3, .int p3)] := hl
  have C0 : tm_C p m c cX9_seen 4 s args wsX9_seen RX9 meth (some .int) g A L tm_all := C0
  obtain ⟨⟨hx, hb, hml, hown, hts⟩, hr, hlk, hK, hD, hG, hF⟩ := id C0
  unfold f_X9_seen at h
  refine lv_aload_n hx hb dX9_seen_0 rfl (lv_at hl 0 rfl) ?_
  refine lv_iload_n hx hb dX9_seen_1 rfl (lv_at hl 1 rfl) ?_
  obtain ⟨r1, e2, h⟩ := tm_bd_some h
  refine tm_backI (r0 := r1) (M0 := M) (fun _ q => q) (tm_callV (As := [.int p1]) (rest := []) ⟨hx, hb, hml, hown, hts⟩ hK hG hP hS (c_X9_unknown l g A L hD hF M p1 r1 e2) (cwV 1 hts gX9_seen_X9_unknown rfl rfl rfl (by decide +kernel) ⟨Nat.le_of_ble_eq_true rfl, Nat.le_of_ble_eq_true rfl⟩) (tm_recv hK hP (hF 0 (by decide)) (ci := 8) rfl (tm_mkX9 (by decide) _)) rfl hl.1 (lv_room (Nat.le_of_ble_eq_true rfl)) dX9_seen_2 ⟨Nat.zero_le _, Nat.zero_le _⟩) hS (fun H locs hP hS => ?_)
  refine lv_if_eq (tgt := 11) hx hb dX9_seen_5 (by decide) (fun c3 => ?_) (fun c3 => ?_)
  · rw [if_pos c3] at h
    refine lv_iload_n hx hb dX9_seen_11 rfl (lv_at hl 2 rfl) ?_
    refine lv_iconst (v := 1) hx hb dX9_seen_12 (by decide) ?_
    refine lv_bipush (v := 30) hx hb dX9_seen_13 (by decide) ?_
    obtain ⟨r4, e5, h⟩ := tm_bd_some h
    refine tm_backI (r0 := r4) (M0 := M) (fun _ q => q) (tm_callS (As := [.int p2, .int 1, .int 30]) (rest := []) ⟨hx, hb, hml, hown, hts⟩ hK hG hP hS (c_X9_outside l g A L hD hF M p2 1 30 r4 e5) (va_cwS 3 hts gX9_seen_X9_outside rfl rfl rfl (by decide +kernel) ⟨Nat.le_of_ble_eq_true rfl, Nat.le_of_ble_eq_true rfl⟩) rfl hl.1 (lv_room (Nat.le_of_ble_eq_true rfl)) dX9_seen_15 ⟨Nat.zero_le _, Nat.zero_le _⟩) hS (fun H locs hP hS => ?_)
    refine lv_if_ne (tgt := 31) hx hb dX9_seen_18 (by decide) (fun c6 => ?_) (fun c6 => ?_)
    · rw [if_neg c6] at h
      refine lv_bipush (v := (-3)) hx hb dX9_seen_31 (by decide) ?_
      exact tm_iret C0 (Option.some.inj h) hP hS dX9_seen_33
    · rw [if_pos c6] at h
      refine lv_iload_n hx hb dX9_seen_21 rfl (lv_at hl 3 rfl) ?_
      refine lv_iconst (v := 0) hx hb dX9_seen_22 (by decide) ?_
      refine lv_bipush (v := 99) hx hb dX9_seen_23 (by decide) ?_
      obtain ⟨r7, e8, h⟩ := tm_bd_some h
      refine tm_backI (r0 := r7) (M0 := M) (fun _ q => q) (tm_callS (As := [.int p3, .int 0, .int 99]) (rest := []) ⟨hx, hb, hml, hown, hts⟩ hK hG hP hS (c_X9_outside l g A L hD hF M p3 0 99 r7 e8) (va_cwS 3 hts gX9_seen_X9_outside rfl rfl rfl (by decide +kernel) ⟨Nat.le_of_ble_eq_true rfl, Nat.le_of_ble_eq_true rfl⟩) rfl hl.1 (lv_room (Nat.le_of_ble_eq_true rfl)) dX9_seen_25 ⟨Nat.zero_le _, Nat.zero_le _⟩) hS (fun H locs hP hS => ?_)
      refine lv_if_eq (tgt := 34) hx hb dX9_seen_28 (by decide) (fun c9 => ?_) (fun c9 => ?_)
      · rw [if_pos c9] at h
        refine lv_aload_n hx hb dX9_seen_34 rfl (lv_at hl 0 rfl) ?_
        refine tm_get (C := RX9) (T := TX9) (N := 15) (v := .int (M 0 12)) hx hb hts nX9_seen_X9 hown hK hP (hF 0 (by decide)) (tm_mkX9 (by decide) _) rfl 12 (by decide) (hts _ kX9_seen_0) rfl dX9_seen_35 ?_
        refine lv_bipush (v := 6) hx hb dX9_seen_38 (by decide) ?_
        refine lv_icmp_lt (tgt := 46) hx hb dX9_seen_40 (by decide) (fun c10 => ?_) (fun c10 => ?_)
        · rw [if_pos c10] at h
          refine lv_aload_n hx hb dX9_seen_46 rfl (lv_at hl 0 rfl) ?_
          refine tm_get (C := RX9) (T := TX9) (N := 15) (v := .ref (g.2.2 + 122)) hx hb hts nX9_seen_X9 hown hK hP (hF 0 (by decide)) (tm_mkX9 (by decide) _) rfl 9 (by decide) (hts _ kX9_seen_1) rfl dX9_seen_47 ?_
          refine lv_aload_n hx hb dX9_seen_50 rfl (lv_at hl 0 rfl) ?_
          refine tm_get (C := RX9) (T := TX9) (N := 15) (v := .int (M 0 12)) hx hb hts nX9_seen_X9 hown hK hP (hF 0 (by decide)) (tm_mkX9 (by decide) _) rfl 12 (by decide) (hts _ kX9_seen_0) rfl dX9_seen_51 ?_
          refine lv_iload_n hx hb dX9_seen_54 rfl (lv_at hl 1 rfl) ?_
          obtain ⟨M11, e12, h⟩ := tm_bd_some h
          refine tm_iast hx hb hK hP hD hS (hF 122 (by decide)) (tm_mkI (n := 6) (by decide) (by decide)) e12 dX9_seen_55 (fun H locs hP hS => ?_)
          refine lv_aload_n hx hb dX9_seen_56 rfl (lv_at hl 0 rfl) ?_
          refine tm_get (C := RX9) (T := TX9) (N := 15) (v := .ref (g.2.2 + 123)) hx hb hts nX9_seen_X9 hown hK hP (hF 0 (by decide)) (tm_mkX9 (by decide) _) rfl 10 (by decide) (hts _ kX9_seen_2) rfl dX9_seen_57 ?_
          refine lv_aload_n hx hb dX9_seen_60 rfl (lv_at hl 0 rfl) ?_
          refine tm_get (C := RX9) (T := TX9) (N := 15) (v := .int (M11 0 12)) hx hb hts nX9_seen_X9 hown hK hP (hF 0 (by decide)) (tm_mkX9 (by decide) _) rfl 12 (by decide) (hts _ kX9_seen_0) rfl dX9_seen_61 ?_
          refine lv_iload_n hx hb dX9_seen_64 rfl (lv_at hl 2 rfl) ?_
          obtain ⟨M13, e14, h⟩ := tm_bd_some h
          refine tm_iast hx hb hK hP hD hS (hF 123 (by decide)) (tm_mkI (n := 6) (by decide) (by decide)) e14 dX9_seen_65 (fun H locs hP hS => ?_)
          refine lv_aload_n hx hb dX9_seen_66 rfl (lv_at hl 0 rfl) ?_
          refine tm_get (C := RX9) (T := TX9) (N := 15) (v := .ref (g.2.2 + 124)) hx hb hts nX9_seen_X9 hown hK hP (hF 0 (by decide)) (tm_mkX9 (by decide) _) rfl 11 (by decide) (hts _ kX9_seen_3) rfl dX9_seen_67 ?_
          refine lv_aload_n hx hb dX9_seen_70 rfl (lv_at hl 0 rfl) ?_
          refine tm_get (C := RX9) (T := TX9) (N := 15) (v := .int (M13 0 12)) hx hb hts nX9_seen_X9 hown hK hP (hF 0 (by decide)) (tm_mkX9 (by decide) _) rfl 12 (by decide) (hts _ kX9_seen_0) rfl dX9_seen_71 ?_
          refine lv_iload_n hx hb dX9_seen_74 rfl (lv_at hl 3 rfl) ?_
          obtain ⟨M15, e16, h⟩ := tm_bd_some h
          refine tm_iast hx hb hK hP hD hS (hF 124 (by decide)) (tm_mkI (n := 6) (by decide) (by decide)) e16 dX9_seen_75 (fun H locs hP hS => ?_)
          refine lv_aload_n hx hb dX9_seen_76 rfl (lv_at hl 0 rfl) ?_
          refine lv_dup hx hb dX9_seen_77 rfl ?_
          refine tm_get (C := RX9) (T := TX9) (N := 15) (v := .int (M15 0 12)) hx hb hts nX9_seen_X9 hown hK hP (hF 0 (by decide)) (tm_mkX9 (by decide) _) rfl 12 (by decide) (hts _ kX9_seen_0) rfl dX9_seen_78 ?_
          refine lv_iconst (v := 1) hx hb dX9_seen_81 (by decide) ?_
          refine lv_iadd hx hb dX9_seen_82 ?_
          obtain ⟨M17, e18, h⟩ := tm_bd_some h
          refine tm_put (C := RX9) (T := TX9) (N := 15) (ty := .int) (x := (M15 0 12) + 1) hx hb hts nX9_seen_X9 tyX9 tyX9_ok nmX9 hown hK hP hD hS (hF 0 (by decide)) (tm_mkX9 (by decide)) rfl 12 (by decide) (hts _ kX9_seen_0) rfl (by decide +kernel) rfl rfl (Nat.le_of_ble_eq_true rfl) rfl (Option.some.inj e18) dX9_seen_83 (fun H locs hP hS => ?_)
          refine lv_aload_n hx hb dX9_seen_86 rfl (lv_at hl 0 rfl) ?_
          refine tm_get (C := RX9) (T := TX9) (N := 15) (v := .int (M17 0 12)) hx hb hts nX9_seen_X9 hown hK hP (hF 0 (by decide)) (tm_mkX9 (by decide) _) rfl 12 (by decide) (hts _ kX9_seen_0) rfl dX9_seen_87 ?_
          exact tm_iret C0 (Option.some.inj h) hP hS dX9_seen_90
        · rw [if_neg c10] at h
          refine lv_bipush (v := (-5)) hx hb dX9_seen_43 (by decide) ?_
          exact tm_iret C0 (Option.some.inj h) hP hS dX9_seen_45
      · rw [if_neg c9] at h
        refine lv_bipush (v := (-3)) hx hb dX9_seen_31 (by decide) ?_
        exact tm_iret C0 (Option.some.inj h) hP hS dX9_seen_33
  · rw [if_neg c3] at h
    refine lv_bipush (v := (-2)) hx hb dX9_seen_8 (by decide) ?_
    exact tm_iret C0 (Option.some.inj h) hP hS dX9_seen_10
/-! X9_forget -/
theorem nX9_forget_X9 : ∀ w ∈ wsX90, w ∈ wsX9_forget := by decide +kernel
theorem kX9_forget_0 : Cond.fieldLink RX9 224 "QuarrelDesk" "seenMany" "I" ∈ wsX9_forget := by decide +kernel
def f_X9_forget (M : tm_M) : Option (Int32 × tm_M) :=
  (some (M 0 12)).bind fun x1 =>
  (some (tm_st M 0 12 0)).bind fun M2 =>
  some (x1, M2)
set_option maxHeartbeats 4000000 in
set_option maxRecDepth 100000 in
theorem c_X9_forget (l : Launch) (g : tm_G) (A : Nat → Prop) (L : List Nat) (hD : ∀ M, va_D A (tm_ws g L M)) (hF : ∀ o, tm_all o → o ∈ L) (M : tm_M) (R0 : Int32 × tm_M) (h : f_X9_forget M = some R0) : Met l yX9_forget wsX9_forget { frames := 0, cells := 0, slots := 0, locals := 0 } (tm_PC g A L M [.ref (g.2.2 + 0)]) (tm_QI g A L R0) 0 0 A := by
  refine tm_start (cc := cX9_forget) (nL := 2) (ret := (some .int)) (F := tm_all) (plainFor_of_name (by decide)) rfl (Nat.le_of_ble_eq_true rfl) hD hF (fun p e s m args below meth c ls C0 hP hS hl => ?_)
  have hl : lv_has ls 2 [(0, .ref (g.2.2 + 0))] := hl
  have C0 : tm_C p m c cX9_forget 2 s args wsX9_forget RX9 meth (some .int) g A L tm_all := C0
  obtain ⟨⟨hx, hb, hml, hown, hts⟩, hr, hlk, hK, hD, hG, hF⟩ := id C0
  unfold f_X9_forget at h
  refine lv_aload_n hx hb dX9_forget_0 rfl (lv_at hl 0 rfl) ?_
  refine tm_get (C := RX9) (T := TX9) (N := 15) (v := .int (M 0 12)) hx hb hts nX9_forget_X9 hown hK hP (hF 0 (by decide)) (tm_mkX9 (by decide) _) rfl 12 (by decide) (hts _ kX9_forget_0) rfl dX9_forget_1 ?_
  refine tm_nam h (fun x1 h => ?_)
  refine lv_istore_n (lv' := [(1, .int x1), (0, .ref (g.2.2 + 0))]) hx hb dX9_forget_4 rfl hl (by decide) rfl (fun ls hl => ?_)
  refine lv_aload_n hx hb dX9_forget_5 rfl (lv_at hl 1 rfl) ?_
  refine lv_iconst (v := 0) hx hb dX9_forget_6 (by decide) ?_
  obtain ⟨M2, e3, h⟩ := tm_bd_some h
  refine tm_put (C := RX9) (T := TX9) (N := 15) (ty := .int) (x := 0) hx hb hts nX9_forget_X9 tyX9 tyX9_ok nmX9 hown hK hP hD hS (hF 0 (by decide)) (tm_mkX9 (by decide)) rfl 12 (by decide) (hts _ kX9_forget_0) rfl (by decide +kernel) rfl rfl (Nat.le_of_ble_eq_true rfl) rfl (Option.some.inj e3) dX9_forget_7 (fun H locs hP hS => ?_)
  refine lv_iload_n hx hb dX9_forget_10 rfl (lv_at hl 0 rfl) ?_
  exact tm_iret C0 (Option.some.inj h) hP hS dX9_forget_11
/-! X9_fits -/
theorem nX9_fits_X9 : ∀ w ∈ wsX90, w ∈ wsX9_fits := by decide +kernel
theorem kX9_fits_0 : Cond.fieldLink RX9 70 "QuarrelDesk" "tried" "LQuarrelDesk$Life;" ∈ wsX9_fits := by decide +kernel
theorem kX9_fits_1 : Cond.fieldLink RX9 43 "QuarrelDesk" "now" "LQuarrelDesk$Year;" ∈ wsX9_fits := by decide +kernel
theorem nX9_fits_X8 : ∀ w ∈ wsX80, w ∈ wsX9_fits := by decide +kernel
theorem kX9_fits_2 : Cond.fieldLink RX9 118 "QuarrelDesk$Year" "lives" "[LQuarrelDesk$Life;" ∈ wsX9_fits := by decide +kernel
theorem nX9_fits_X1 : ∀ w ∈ wsX10, w ∈ wsX9_fits := by decide +kernel
theorem kX9_fits_3 : Cond.fieldLink RX9 279 "QuarrelDesk$Life" "temper" "I" ∈ wsX9_fits := by decide +kernel
theorem kX9_fits_4 : Cond.fieldLink RX9 159 "QuarrelDesk$Life" "strain" "I" ∈ wsX9_fits := by decide +kernel
def f_X9_fits (M : tm_M) (p1 : Int32) (p2 : Int32) (p3 : Int32) (p4 : Int32) : Option (Int32 × tm_M) :=
  (tm_rdr 22 6 p1).bind fun x1 =>
  (f_X1_copy M 125 x1).bind fun M5 =>
  (some (tm_st M5 125 1 p2)).bind fun M6 =>
  (f_X9_passTried M6 p3).bind fun M10 =>
  if (M10 125 2) = p4 then
    some (1, M10)
  else
    some (0, M10)
set_option maxHeartbeats 4000000 in
set_option maxRecDepth 100000 in
theorem c_X9_fits (l : Launch) (g : tm_G) (A : Nat → Prop) (L : List Nat) (hD : ∀ M, va_D A (tm_ws g L M)) (hF : ∀ o, tm_all o → o ∈ L) (M : tm_M) (p1 : Int32) (p2 : Int32) (p3 : Int32) (p4 : Int32) (R0 : Int32 × tm_M) (h : f_X9_fits M p1 p2 p3 p4 = some R0) : Met l yX9_fits wsX9_fits { frames := 5, cells := 0, slots := 0, locals := 110 } (tm_PC g A L M [.ref (g.2.2 + 0), .int p1, .int p2, .int p3, .int p4]) (tm_QI g A L R0) 0 0 A := by
  refine tm_start (cc := cX9_fits) (nL := 5) (ret := (some .boolean)) (F := tm_all) (plainFor_of_name (by decide)) rfl (Nat.le_of_ble_eq_true rfl) hD hF (fun p e s m args below meth c ls C0 hP hS hl => ?_)
  have hl : lv_has ls 5 [(0, .ref (g.2.2 + 0)), (1, .int p1), (2, .int p2), (3, .int p3), (4, .int p4)] := hl
  have C0 : tm_C p m c cX9_fits 5 s args wsX9_fits RX9 meth (some .boolean) g A L tm_all := C0
  obtain ⟨⟨hx, hb, hml, hown, hts⟩, hr, hlk, hK, hD, hG, hF⟩ := id C0
  unfold f_X9_fits at h
  refine lv_aload_n hx hb dX9_fits_0 rfl (lv_at hl 0 rfl) ?_
  refine tm_get (C := RX9) (T := TX9) (N := 15) (v := .ref (g.2.2 + 125)) hx hb hts nX9_fits_X9 hown hK hP (hF 0 (by decide)) (tm_mkX9 (by decide) _) rfl 13 (by decide) (hts _ kX9_fits_0) rfl dX9_fits_1 ?_
  refine lv_aload_n hx hb dX9_fits_4 rfl (lv_at hl 0 rfl) ?_
  refine tm_get (C := RX9) (T := TX9) (N := 15) (v := .ref (g.2.2 + 20)) hx hb hts nX9_fits_X9 hown hK hP (hF 0 (by decide)) (tm_mkX9 (by decide) _) rfl 3 (by decide) (hts _ kX9_fits_1) rfl dX9_fits_5 ?_
  refine tm_get (C := RX8) (T := TX8) (N := 4) (v := .ref (g.2.2 + 22)) hx hb hts nX9_fits_X8 hown hK hP (hF 20 (by decide)) (tm_mkX8 (by decide) _) rfl 1 (by decide) (hts _ kX9_fits_2) rfl dX9_fits_8 ?_
  refine lv_iload_n hx hb dX9_fits_11 rfl (lv_at hl 1 rfl) ?_
  obtain ⟨x1, e2, h⟩ := tm_bd_some h
  refine tm_aald hx hb hK hP 3 (hF 22 (by decide)) (tm_mkL (by decide)) rfl e2 dX9_fits_12 ?_
  obtain ⟨M5, e4, h⟩ := tm_bd_some h
  refine tm_backV (M0 := M5) (fun _ q => q) (tm_callV (As := [.ref (g.2.2 + x1)]) (rest := []) ⟨hx, hb, hml, hown, hts⟩ hK hG hP hS (c_X1_copy l g A L hD hF M 125 x1 M5 e4) (cwV 1 hts gX9_fits_X1_copy rfl rfl rfl (by decide +kernel) ⟨Nat.le_of_ble_eq_true rfl, Nat.le_of_ble_eq_true rfl⟩) (tm_recv hK hP (hF 125 (by decide)) (ci := 0) rfl (tm_mkX1 (by decide) _)) rfl hl.1 (lv_room (Nat.le_of_ble_eq_true rfl)) dX9_fits_13 ⟨Nat.zero_le _, Nat.zero_le _⟩) hS (fun H locs hP hS => ?_)
  refine lv_aload_n hx hb dX9_fits_16 rfl (lv_at hl 0 rfl) ?_
  refine tm_get (C := RX9) (T := TX9) (N := 15) (v := .ref (g.2.2 + 125)) hx hb hts nX9_fits_X9 hown hK hP (hF 0 (by decide)) (tm_mkX9 (by decide) _) rfl 13 (by decide) (hts _ kX9_fits_0) rfl dX9_fits_17 ?_
  refine lv_iload_n hx hb dX9_fits_20 rfl (lv_at hl 2 rfl) ?_
  obtain ⟨M6, e7, h⟩ := tm_bd_some h
  refine tm_put (C := RX1) (T := TX1) (N := 12) (ty := .int) (x := p2) hx hb hts nX9_fits_X1 tyX1 tyX1_ok nmX1 hown hK hP hD hS (hF 125 (by decide)) (tm_mkX1 (by decide)) rfl 1 (by decide) (hts _ kX9_fits_3) rfl (by decide +kernel) rfl rfl (Nat.le_of_ble_eq_true rfl) rfl (Option.some.inj e7) dX9_fits_21 (fun H locs hP hS => ?_)
  refine lv_aload_n hx hb dX9_fits_24 rfl (lv_at hl 0 rfl) ?_
  refine lv_iload_n hx hb dX9_fits_25 rfl (lv_at hl 3 rfl) ?_
  obtain ⟨M10, e9, h⟩ := tm_bd_some h
  refine tm_backV (M0 := M10) (fun _ q => q) (tm_callV (As := [.int p3]) (rest := []) ⟨hx, hb, hml, hown, hts⟩ hK hG hP hS (c_X9_passTried l g A L hD hF M6 p3 M10 e9) (cwV 1 hts gX9_fits_X9_passTried rfl rfl rfl (by decide +kernel) ⟨Nat.le_of_ble_eq_true rfl, Nat.le_of_ble_eq_true rfl⟩) (tm_recv hK hP (hF 0 (by decide)) (ci := 8) rfl (tm_mkX9 (by decide) _)) rfl hl.1 (lv_room (Nat.le_of_ble_eq_true rfl)) dX9_fits_26 ⟨Nat.zero_le _, Nat.zero_le _⟩) hS (fun H locs hP hS => ?_)
  refine lv_aload_n hx hb dX9_fits_29 rfl (lv_at hl 0 rfl) ?_
  refine tm_get (C := RX9) (T := TX9) (N := 15) (v := .ref (g.2.2 + 125)) hx hb hts nX9_fits_X9 hown hK hP (hF 0 (by decide)) (tm_mkX9 (by decide) _) rfl 13 (by decide) (hts _ kX9_fits_0) rfl dX9_fits_30 ?_
  refine tm_get (C := RX1) (T := TX1) (N := 12) (v := .int (M10 125 2)) hx hb hts nX9_fits_X1 hown hK hP (hF 125 (by decide)) (tm_mkX1 (by decide) _) rfl 2 (by decide) (hts _ kX9_fits_4) rfl dX9_fits_33 ?_
  refine lv_iload hx hb dX9_fits_36 (lv_at hl 4 rfl) ?_
  refine lv_icmp_ne (tgt := 45) hx hb dX9_fits_38 (by decide) (fun c11 => ?_) (fun c11 => ?_)
  · rw [if_neg c11] at h
    refine lv_iconst (v := 0) hx hb dX9_fits_45 (by decide) ?_
    exact tm_zret C0 (by unfold tm_isB; decide) (Option.some.inj h) hP hS dX9_fits_46
  · rw [if_pos c11] at h
    refine lv_iconst (v := 1) hx hb dX9_fits_41 (by decide) ?_
    refine lv_goto (tgt := 46) hx hb dX9_fits_42 (by decide) ?_
    exact tm_zret C0 (by unfold tm_isB; decide) (Option.some.inj h) hP hS dX9_fits_46
/-! X9_fitsAllSeen -/
theorem nX9_fitsAllSeen_X9 : ∀ w ∈ wsX90, w ∈ wsX9_fitsAllSeen := by decide +kernel
theorem kX9_fitsAllSeen_0 : Cond.fieldLink RX9 224 "QuarrelDesk" "seenMany" "I" ∈ wsX9_fitsAllSeen := by decide +kernel
theorem kX9_fitsAllSeen_1 : Cond.fieldLink RX9 57 "QuarrelDesk" "seenCouples" "[I" ∈ wsX9_fitsAllSeen := by decide +kernel
theorem kX9_fitsAllSeen_2 : Cond.fieldLink RX9 61 "QuarrelDesk" "seenDays" "[I" ∈ wsX9_fitsAllSeen := by decide +kernel
theorem kX9_fitsAllSeen_3 : Cond.fieldLink RX9 64 "QuarrelDesk" "seenStrains" "[I" ∈ wsX9_fitsAllSeen := by decide +kernel
def f_X9_fitsAllSeen_L2 (k : Int32 → tm_M → Option (Int32 × tm_M)) (w1 : Int32) (w2 : Int32) : Nat → Int32 → tm_M → Option (Int32 × tm_M)
  | 0, _, _ => none
  | n + 1, v3, M =>
    if (M 0 12) ≤ v3 then
      k v3 M
    else
      if 6 ≤ v3 then
        k v3 M
      else
        (tm_rd M 122 6 v3).bind fun x3 =>
        if x3 = w1 then
          (tm_rd M 123 6 v3).bind fun x6 =>
          (tm_rd M 124 6 v3).bind fun x8 =>
          (f_X9_fits M w1 w2 x6 x8).bind fun r10 =>
          if r10.1 = 0 then
            some (0, r10.2)
          else
            f_X9_fitsAllSeen_L2 k w1 w2 n (v3 + 1) r10.2
        else
          f_X9_fitsAllSeen_L2 k w1 w2 n (v3 + 1) M
def f_X9_fitsAllSeen (M : tm_M) (p1 : Int32) (p2 : Int32) : Option (Int32 × tm_M) :=
  f_X9_fitsAllSeen_L2 (fun v13 M14 =>
    some (1, M14)) p1 p2 1000 0 M
set_option maxHeartbeats 4000000 in
set_option maxRecDepth 100000 in
theorem w_X9_fitsAllSeen_L2 {p : Program} {l : Launch} {e : Env} {s : State} {m : MethodId} {args : Array Value} {below : List Frame} {meth : Method} {c : Code} {g : tm_G} {A : Nat → Prop} {L : List Nat} (C0 : tm_C p m c cX9_fitsAllSeen 4 s args wsX9_fitsAllSeen RX9 meth (some .boolean) g A L tm_all) (w1 : Int32) (w2 : Int32) (k : Int32 → tm_M → Option (Int32 × tm_M)) (R0 : Int32 × tm_M) (hk : ∀ (v3 : Int32) (M : tm_M), k v3 M = some R0 → ∀ (H : Heap) (locs : List Loc) (ls : Array Slot), va_P g.1 vwCl (tm_ws g L M) H → va_S A s.heap H locs → lv_has ls 4 [(0, .ref (g.2.2 + 0)), (1, .int w1), (2, .int w2), (3, .int v3)] → W p l e { frames := 6, cells := 0, slots := 0, locals := 134 } s m args below meth c H locs 0 0 (MQ below (tm_QI g A L R0) args s 0 0 A) (F0 m 55 ls [])) : ∀ (n : Nat) (v3 : Int32) (M : tm_M), f_X9_fitsAllSeen_L2 k w1 w2 n v3 M = some R0 → ∀ (H : Heap) (locs : List Loc) (ls : Array Slot), va_P g.1 vwCl (tm_ws g L M) H → va_S A s.heap H locs → lv_has ls 4 [(0, .ref (g.2.2 + 0)), (1, .int w1), (2, .int w2), (3, .int v3)] → W p l e { frames := 6, cells := 0, slots := 0, locals := 134 } s m args below meth c H locs 0 0 (MQ below (tm_QI g A L R0) args s 0 0 A) (F0 m 2 ls []) := by
  obtain ⟨⟨hx, hb, hml, hown, hts⟩, hr, hlk, hK, hD, hG, hF⟩ := id C0
  intro n
  induction n with
  | zero =>
    intro v3 M h
    simp [f_X9_fitsAllSeen_L2] at h
  | succ n ih =>
    intro v3 M h H locs ls hP hS hl
    rw [f_X9_fitsAllSeen_L2] at h
    refine lv_iload_n hx hb dX9_fitsAllSeen_2 rfl (lv_at hl 3 rfl) ?_
    refine lv_aload_n hx hb dX9_fitsAllSeen_3 rfl (lv_at hl 0 rfl) ?_
    refine tm_get (C := RX9) (T := TX9) (N := 15) (v := .int (M 0 12)) hx hb hts nX9_fitsAllSeen_X9 hown hK hP (hF 0 (by decide)) (tm_mkX9 (by decide) _) rfl 12 (by decide) (hts _ kX9_fitsAllSeen_0) rfl dX9_fitsAllSeen_4 ?_
    refine lv_icmp_ge (tgt := 55) hx hb dX9_fitsAllSeen_7 (by decide) (fun c1 => ?_) (fun c1 => ?_)
    · rw [if_pos c1] at h
      exact hk v3 M h _ _ _ hP hS (lv_sub hl [0, 1, 2, 3] rfl)
    · rw [if_neg c1] at h
      refine lv_iload_n hx hb dX9_fitsAllSeen_10 rfl (lv_at hl 3 rfl) ?_
      refine lv_bipush (v := 6) hx hb dX9_fitsAllSeen_11 (by decide) ?_
      refine lv_icmp_ge (tgt := 55) hx hb dX9_fitsAllSeen_13 (by decide) (fun c2 => ?_) (fun c2 => ?_)
      · rw [if_pos c2] at h
        exact hk v3 M h _ _ _ hP hS (lv_sub hl [0, 1, 2, 3] rfl)
      · rw [if_neg c2] at h
        refine lv_aload_n hx hb dX9_fitsAllSeen_16 rfl (lv_at hl 0 rfl) ?_
        refine tm_get (C := RX9) (T := TX9) (N := 15) (v := .ref (g.2.2 + 122)) hx hb hts nX9_fitsAllSeen_X9 hown hK hP (hF 0 (by decide)) (tm_mkX9 (by decide) _) rfl 9 (by decide) (hts _ kX9_fitsAllSeen_1) rfl dX9_fitsAllSeen_17 ?_
        refine lv_iload_n hx hb dX9_fitsAllSeen_20 rfl (lv_at hl 3 rfl) ?_
        obtain ⟨x3, e4, h⟩ := tm_bd_some h
        refine tm_iald hx hb hK hP (hF 122 (by decide)) (tm_mkI (n := 6) (by decide) (by decide)) e4 dX9_fitsAllSeen_21 ?_
        refine lv_iload_n hx hb dX9_fitsAllSeen_22 rfl (lv_at hl 1 rfl) ?_
        refine lv_icmp_ne (tgt := 49) hx hb dX9_fitsAllSeen_23 (by decide) (fun c5 => ?_) (fun c5 => ?_)
        · rw [if_neg c5] at h
          refine lv_iinc (v := v3 + 1) (lv' := [(3, .int (v3 + 1)), (0, .ref (g.2.2 + 0)), (1, .int w1), (2, .int w2)]) hx hb dX9_fitsAllSeen_49 hl (k := 3) rfl rfl (by decide) rfl (fun ls hl => ?_)
          refine lv_goto (tgt := 2) hx hb dX9_fitsAllSeen_52 (by decide) ?_
          exact ih (v3 + 1) M h _ _ _ hP hS (lv_sub hl [1, 2, 3, 0] rfl)
        · rw [if_pos c5] at h
          refine lv_aload_n hx hb dX9_fitsAllSeen_26 rfl (lv_at hl 0 rfl) ?_
          refine lv_iload_n hx hb dX9_fitsAllSeen_27 rfl (lv_at hl 1 rfl) ?_
          refine lv_iload_n hx hb dX9_fitsAllSeen_28 rfl (lv_at hl 2 rfl) ?_
          refine lv_aload_n hx hb dX9_fitsAllSeen_29 rfl (lv_at hl 0 rfl) ?_
          refine tm_get (C := RX9) (T := TX9) (N := 15) (v := .ref (g.2.2 + 123)) hx hb hts nX9_fitsAllSeen_X9 hown hK hP (hF 0 (by decide)) (tm_mkX9 (by decide) _) rfl 10 (by decide) (hts _ kX9_fitsAllSeen_2) rfl dX9_fitsAllSeen_30 ?_
          refine lv_iload_n hx hb dX9_fitsAllSeen_33 rfl (lv_at hl 3 rfl) ?_
          obtain ⟨x6, e7, h⟩ := tm_bd_some h
          refine tm_iald hx hb hK hP (hF 123 (by decide)) (tm_mkI (n := 6) (by decide) (by decide)) e7 dX9_fitsAllSeen_34 ?_
          refine lv_aload_n hx hb dX9_fitsAllSeen_35 rfl (lv_at hl 0 rfl) ?_
          refine tm_get (C := RX9) (T := TX9) (N := 15) (v := .ref (g.2.2 + 124)) hx hb hts nX9_fitsAllSeen_X9 hown hK hP (hF 0 (by decide)) (tm_mkX9 (by decide) _) rfl 11 (by decide) (hts _ kX9_fitsAllSeen_3) rfl dX9_fitsAllSeen_36 ?_
          refine lv_iload_n hx hb dX9_fitsAllSeen_39 rfl (lv_at hl 3 rfl) ?_
          obtain ⟨x8, e9, h⟩ := tm_bd_some h
          refine tm_iald hx hb hK hP (hF 124 (by decide)) (tm_mkI (n := 6) (by decide) (by decide)) e9 dX9_fitsAllSeen_40 ?_
          obtain ⟨r10, e11, h⟩ := tm_bd_some h
          refine tm_backI (r0 := r10.1) (M0 := r10.2) (fun _ q => q) (tm_callV (As := [.int w1, .int w2, .int x6, .int x8]) (rest := []) ⟨hx, hb, hml, hown, hts⟩ hK hG hP hS (c_X9_fits l g A L hD hF M w1 w2 x6 x8 r10 e11) (cwV 4 hts gX9_fitsAllSeen_X9_fits rfl rfl rfl (by decide +kernel) ⟨Nat.le_of_ble_eq_true rfl, Nat.le_of_ble_eq_true rfl⟩) (tm_recv hK hP (hF 0 (by decide)) (ci := 8) rfl (tm_mkX9 (by decide) _)) rfl hl.1 (lv_room (Nat.le_of_ble_eq_true rfl)) dX9_fitsAllSeen_41 ⟨Nat.zero_le _, Nat.zero_le _⟩) hS (fun H locs hP hS => ?_)
          refine lv_if_ne (tgt := 49) hx hb dX9_fitsAllSeen_44 (by decide) (fun c12 => ?_) (fun c12 => ?_)
          · rw [if_neg c12] at h
            refine lv_iinc (v := v3 + 1) (lv' := [(3, .int (v3 + 1)), (0, .ref (g.2.2 + 0)), (1, .int w1), (2, .int w2)]) hx hb dX9_fitsAllSeen_49 hl (k := 3) rfl rfl (by decide) rfl (fun ls hl => ?_)
            refine lv_goto (tgt := 2) hx hb dX9_fitsAllSeen_52 (by decide) ?_
            exact ih (v3 + 1) r10.2 h _ _ _ hP hS (lv_sub hl [1, 2, 3, 0] rfl)
          · rw [if_pos c12] at h
            refine lv_iconst (v := 0) hx hb dX9_fitsAllSeen_47 (by decide) ?_
            exact tm_zret C0 (by unfold tm_isB; decide) (Option.some.inj h) hP hS dX9_fitsAllSeen_48
set_option maxHeartbeats 4000000 in
set_option maxRecDepth 100000 in
theorem c_X9_fitsAllSeen (l : Launch) (g : tm_G) (A : Nat → Prop) (L : List Nat) (hD : ∀ M, va_D A (tm_ws g L M)) (hF : ∀ o, tm_all o → o ∈ L) (M : tm_M) (p1 : Int32) (p2 : Int32) (R0 : Int32 × tm_M) (h : f_X9_fitsAllSeen M p1 p2 = some R0) : Met l yX9_fitsAllSeen wsX9_fitsAllSeen { frames := 6, cells := 0, slots := 0, locals := 134 } (tm_PC g A L M [.ref (g.2.2 + 0), .int p1, .int p2]) (tm_QI g A L R0) 0 0 A := by
  refine tm_start (cc := cX9_fitsAllSeen) (nL := 4) (ret := (some .boolean)) (F := tm_all) (plainFor_of_name (by decide)) rfl (Nat.le_of_ble_eq_true rfl) hD hF (fun p e s m args below meth c ls C0 hP hS hl => ?_)
  have hl : lv_has ls 4 [(0, .ref (g.2.2 + 0)), (1, .int p1), (2, .int p2)] := hl
  have C0 : tm_C p m c cX9_fitsAllSeen 4 s args wsX9_fitsAllSeen RX9 meth (some .boolean) g A L tm_all := C0
  obtain ⟨⟨hx, hb, hml, hown, hts⟩, hr, hlk, hK, hD, hG, hF⟩ := id C0
  unfold f_X9_fitsAllSeen at h
  refine lv_iconst (v := 0) hx hb dX9_fitsAllSeen_0 (by decide) ?_
  refine lv_istore_n (lv' := [(3, .int 0), (0, .ref (g.2.2 + 0)), (1, .int p1), (2, .int p2)]) hx hb dX9_fitsAllSeen_1 rfl hl (by decide) rfl (fun ls hl => ?_)
  refine w_X9_fitsAllSeen_L2 C0 p1 p2 _ R0 (fun v13 M14 h H locs ls hP hS hl => ?_) 1000 0 M h _ _ _ hP hS (lv_sub hl [1, 2, 3, 0] rfl)
  refine lv_iconst (v := 1) hx hb dX9_fitsAllSeen_55 (by decide) ?_
  exact tm_zret C0 (by unfold tm_isB; decide) (Option.some.inj h) hP hS dX9_fitsAllSeen_56
/-! X9_tempers -/
def f_X9_tempers_L15 (k : Int32 → Int32 → tm_M → Option (Int32 × tm_M)) (w1 : Int32) : Nat → Int32 → Int32 → tm_M → Option (Int32 × tm_M)
  | 0, _, _, _ => none
  | n + 1, v2, v3, M =>
    if 9 < v3 then
      k v2 v3 M
    else
      (f_X9_fitsAllSeen M w1 v3).bind fun r5 =>
      if r5.1 = 0 then
        f_X9_tempers_L15 k w1 n v2 (v3 + 1) r5.2
      else
        (some (v2 ||| (1 <<< (v3 &&& 31)))).bind fun x8 =>
        f_X9_tempers_L15 k w1 n x8 (v3 + 1) r5.2
def f_X9_tempers (M : tm_M) (p1 : Int32) : Option (Int32 × tm_M) :=
  (f_X9_unknown M p1).bind fun r1 =>
  if r1 = 0 then
    f_X9_tempers_L15 (fun v9 v10 M11 =>
      some (v9, M11)) p1 1000 0 1 M
  else
    some ((-2), M)
set_option maxHeartbeats 4000000 in
set_option maxRecDepth 100000 in
theorem w_X9_tempers_L15 {p : Program} {l : Launch} {e : Env} {s : State} {m : MethodId} {args : Array Value} {below : List Frame} {meth : Method} {c : Code} {g : tm_G} {A : Nat → Prop} {L : List Nat} (C0 : tm_C p m c cX9_tempers 4 s args wsX9_tempers RX9 meth (some .int) g A L tm_all) (w1 : Int32) (k : Int32 → Int32 → tm_M → Option (Int32 × tm_M)) (R0 : Int32 × tm_M) (hk : ∀ (v2 : Int32) (v3 : Int32) (M : tm_M), k v2 v3 M = some R0 → ∀ (H : Heap) (locs : List Loc) (ls : Array Slot), va_P g.1 vwCl (tm_ws g L M) H → va_S A s.heap H locs → lv_has ls 4 [(0, .ref (g.2.2 + 0)), (1, .int w1), (2, .int v2), (3, .int v3)] → W p l e { frames := 7, cells := 0, slots := 0, locals := 157 } s m args below meth c H locs 0 0 (MQ below (tm_QI g A L R0) args s 0 0 A) (F0 m 42 ls [])) : ∀ (n : Nat) (v2 : Int32) (v3 : Int32) (M : tm_M), f_X9_tempers_L15 k w1 n v2 v3 M = some R0 → ∀ (H : Heap) (locs : List Loc) (ls : Array Slot), va_P g.1 vwCl (tm_ws g L M) H → va_S A s.heap H locs → lv_has ls 4 [(0, .ref (g.2.2 + 0)), (1, .int w1), (2, .int v2), (3, .int v3)] → W p l e { frames := 7, cells := 0, slots := 0, locals := 157 } s m args below meth c H locs 0 0 (MQ below (tm_QI g A L R0) args s 0 0 A) (F0 m 15 ls []) := by
  obtain ⟨⟨hx, hb, hml, hown, hts⟩, hr, hlk, hK, hD, hG, hF⟩ := id C0
  intro n
  induction n with
  | zero =>
    intro v2 v3 M h
    simp [f_X9_tempers_L15] at h
  | succ n ih =>
    intro v2 v3 M h H locs ls hP hS hl
    rw [f_X9_tempers_L15] at h
    refine lv_iload_n hx hb dX9_tempers_15 rfl (lv_at hl 3 rfl) ?_
    refine lv_bipush (v := 9) hx hb dX9_tempers_16 (by decide) ?_
    refine lv_icmp_gt (tgt := 42) hx hb dX9_tempers_18 (by decide) (fun c4 => ?_) (fun c4 => ?_)
    · rw [if_pos c4] at h
      exact hk v2 v3 M h _ _ _ hP hS (lv_sub hl [0, 1, 2, 3] rfl)
    · rw [if_neg c4] at h
      refine lv_aload_n hx hb dX9_tempers_21 rfl (lv_at hl 0 rfl) ?_
      refine lv_iload_n hx hb dX9_tempers_22 rfl (lv_at hl 1 rfl) ?_
      refine lv_iload_n hx hb dX9_tempers_23 rfl (lv_at hl 3 rfl) ?_
      obtain ⟨r5, e6, h⟩ := tm_bd_some h
      refine tm_backI (r0 := r5.1) (M0 := r5.2) (fun _ q => q) (tm_callV (As := [.int w1, .int v3]) (rest := []) ⟨hx, hb, hml, hown, hts⟩ hK hG hP hS (c_X9_fitsAllSeen l g A L hD hF M w1 v3 r5 e6) (cwV 2 hts gX9_tempers_X9_fitsAllSeen rfl rfl rfl (by decide +kernel) ⟨Nat.le_of_ble_eq_true rfl, Nat.le_of_ble_eq_true rfl⟩) (tm_recv hK hP (hF 0 (by decide)) (ci := 8) rfl (tm_mkX9 (by decide) _)) rfl hl.1 (lv_room (Nat.le_of_ble_eq_true rfl)) dX9_tempers_24 ⟨Nat.zero_le _, Nat.zero_le _⟩) hS (fun H locs hP hS => ?_)
      refine lv_if_eq (tgt := 36) hx hb dX9_tempers_27 (by decide) (fun c7 => ?_) (fun c7 => ?_)
      · rw [if_pos c7] at h
        refine lv_iinc (v := v3 + 1) (lv' := [(3, .int (v3 + 1)), (0, .ref (g.2.2 + 0)), (1, .int w1), (2, .int v2)]) hx hb dX9_tempers_36 hl (k := 3) rfl rfl (by decide) rfl (fun ls hl => ?_)
        refine lv_goto (tgt := 15) hx hb dX9_tempers_39 (by decide) ?_
        exact ih v2 (v3 + 1) r5.2 h _ _ _ hP hS (lv_sub hl [1, 2, 3, 0] rfl)
      · rw [if_neg c7] at h
        refine lv_iload_n hx hb dX9_tempers_30 rfl (lv_at hl 2 rfl) ?_
        refine lv_iconst (v := 1) hx hb dX9_tempers_31 (by decide) ?_
        refine lv_iload_n hx hb dX9_tempers_32 rfl (lv_at hl 3 rfl) ?_
        refine lv_ishl hx hb dX9_tempers_33 ?_
        refine lv_ior hx hb dX9_tempers_34 ?_
        refine tm_nam h (fun x8 h => ?_)
        refine lv_istore_n (lv' := [(2, .int x8), (0, .ref (g.2.2 + 0)), (1, .int w1), (3, .int v3)]) hx hb dX9_tempers_35 rfl hl (by decide) rfl (fun ls hl => ?_)
        refine lv_iinc (v := v3 + 1) (lv' := [(3, .int (v3 + 1)), (2, .int x8), (0, .ref (g.2.2 + 0)), (1, .int w1)]) hx hb dX9_tempers_36 hl (k := 3) rfl rfl (by decide) rfl (fun ls hl => ?_)
        refine lv_goto (tgt := 15) hx hb dX9_tempers_39 (by decide) ?_
        exact ih x8 (v3 + 1) r5.2 h _ _ _ hP hS (lv_sub hl [2, 3, 1, 0] rfl)
set_option maxHeartbeats 4000000 in
set_option maxRecDepth 100000 in
theorem c_X9_tempers (l : Launch) (g : tm_G) (A : Nat → Prop) (L : List Nat) (hD : ∀ M, va_D A (tm_ws g L M)) (hF : ∀ o, tm_all o → o ∈ L) (M : tm_M) (p1 : Int32) (R0 : Int32 × tm_M) (h : f_X9_tempers M p1 = some R0) : Met l yX9_tempers wsX9_tempers { frames := 7, cells := 0, slots := 0, locals := 157 } (tm_PC g A L M [.ref (g.2.2 + 0), .int p1]) (tm_QI g A L R0) 0 0 A := by
  refine tm_start (cc := cX9_tempers) (nL := 4) (ret := (some .int)) (F := tm_all) (plainFor_of_name (by decide)) rfl (Nat.le_of_ble_eq_true rfl) hD hF (fun p e s m args below meth c ls C0 hP hS hl => ?_)
  have hl : lv_has ls 4 [(0, .ref (g.2.2 + 0)), (1, .int p1)] := hl
  have C0 : tm_C p m c cX9_tempers 4 s args wsX9_tempers RX9 meth (some .int) g A L tm_all := C0
  obtain ⟨⟨hx, hb, hml, hown, hts⟩, hr, hlk, hK, hD, hG, hF⟩ := id C0
  unfold f_X9_tempers at h
  refine lv_aload_n hx hb dX9_tempers_0 rfl (lv_at hl 0 rfl) ?_
  refine lv_iload_n hx hb dX9_tempers_1 rfl (lv_at hl 1 rfl) ?_
  obtain ⟨r1, e2, h⟩ := tm_bd_some h
  refine tm_backI (r0 := r1) (M0 := M) (fun _ q => q) (tm_callV (As := [.int p1]) (rest := []) ⟨hx, hb, hml, hown, hts⟩ hK hG hP hS (c_X9_unknown l g A L hD hF M p1 r1 e2) (cwV 1 hts gX9_tempers_X9_unknown rfl rfl rfl (by decide +kernel) ⟨Nat.le_of_ble_eq_true rfl, Nat.le_of_ble_eq_true rfl⟩) (tm_recv hK hP (hF 0 (by decide)) (ci := 8) rfl (tm_mkX9 (by decide) _)) rfl hl.1 (lv_room (Nat.le_of_ble_eq_true rfl)) dX9_tempers_2 ⟨Nat.zero_le _, Nat.zero_le _⟩) hS (fun H locs hP hS => ?_)
  refine lv_if_eq (tgt := 11) hx hb dX9_tempers_5 (by decide) (fun c3 => ?_) (fun c3 => ?_)
  · rw [if_pos c3] at h
    refine lv_iconst (v := 0) hx hb dX9_tempers_11 (by decide) ?_
    refine lv_istore_n (lv' := [(2, .int 0), (0, .ref (g.2.2 + 0)), (1, .int p1)]) hx hb dX9_tempers_12 rfl hl (by decide) rfl (fun ls hl => ?_)
    refine lv_iconst (v := 1) hx hb dX9_tempers_13 (by decide) ?_
    refine lv_istore_n (lv' := [(3, .int 1), (2, .int 0), (0, .ref (g.2.2 + 0)), (1, .int p1)]) hx hb dX9_tempers_14 rfl hl (by decide) rfl (fun ls hl => ?_)
    refine w_X9_tempers_L15 C0 p1 _ R0 (fun v9 v10 M11 h H locs ls hP hS hl => ?_) 1000 0 1 M h _ _ _ hP hS (lv_sub hl [2, 3, 1, 0] rfl)
    refine lv_iload_n hx hb dX9_tempers_42 rfl (lv_at hl 2 rfl) ?_
    exact tm_iret C0 (Option.some.inj h) hP hS dX9_tempers_43
  · rw [if_neg c3] at h
    refine lv_bipush (v := (-2)) hx hb dX9_tempers_8 (by decide) ?_
    exact tm_iret C0 (Option.some.inj h) hP hS dX9_tempers_10
/-! X9_breaksByVisits -/
theorem nX9_breaksByVisits_X9 : ∀ w ∈ wsX90, w ∈ wsX9_breaksByVisits := by decide +kernel
theorem kX9_breaksByVisits_0 : Cond.fieldLink RX9 70 "QuarrelDesk" "tried" "LQuarrelDesk$Life;" ∈ wsX9_breaksByVisits := by decide +kernel
theorem kX9_breaksByVisits_1 : Cond.fieldLink RX9 43 "QuarrelDesk" "now" "LQuarrelDesk$Year;" ∈ wsX9_breaksByVisits := by decide +kernel
theorem nX9_breaksByVisits_X8 : ∀ w ∈ wsX80, w ∈ wsX9_breaksByVisits := by decide +kernel
theorem kX9_breaksByVisits_2 : Cond.fieldLink RX9 118 "QuarrelDesk$Year" "lives" "[LQuarrelDesk$Life;" ∈ wsX9_breaksByVisits := by decide +kernel
theorem kX9_breaksByVisits_3 : Cond.fieldLink RX9 133 "QuarrelDesk$Year" "day" "I" ∈ wsX9_breaksByVisits := by decide +kernel
theorem kX9_breaksByVisits_4 : Cond.fieldLink RX9 140 "QuarrelDesk$Year" "terms" "LQuarrelDesk$Terms;" ∈ wsX9_breaksByVisits := by decide +kernel
def f_X9_breaksByVisits_L19 (k : Int32 → tm_M → Option (Int32 × tm_M)) (w1 : Int32) (w2 : Int32) (w3 : Int32) : Nat → Int32 → tm_M → Option (Int32 × tm_M)
  | 0, _, _ => none
  | n + 1, v4, M =>
    if w2 ≤ v4 then
      k v4 M
    else
      if ((w3 >>> (v4 &&& 31)) &&& 1) = 0 then
        (f_X1_pass M 125 ((M 20 3) + v4) 21).bind fun r8 =>
        if r8.1 = 0 then
          f_X9_breaksByVisits_L19 k w1 w2 w3 n (v4 + 1) r8.2
        else
          some (1, r8.2)
      else
        (f_X1_beVisited M 125).bind fun M13 =>
        (f_X1_pass M13 125 ((M13 20 3) + v4) 21).bind fun r14 =>
        if r14.1 = 0 then
          f_X9_breaksByVisits_L19 k w1 w2 w3 n (v4 + 1) r14.2
        else
          some (1, r14.2)
def f_X9_breaksByVisits (M : tm_M) (p1 : Int32) (p2 : Int32) (p3 : Int32) : Option (Int32 × tm_M) :=
  (tm_rdr 22 6 p1).bind fun x1 =>
  (f_X1_copy M 125 x1).bind fun M5 =>
  f_X9_breaksByVisits_L19 (fun v17 M18 =>
    some (0, M18)) p1 p2 p3 1000 0 M5
set_option maxHeartbeats 4000000 in
set_option maxRecDepth 100000 in
theorem w_X9_breaksByVisits_L19 {p : Program} {l : Launch} {e : Env} {s : State} {m : MethodId} {args : Array Value} {below : List Frame} {meth : Method} {c : Code} {g : tm_G} {A : Nat → Prop} {L : List Nat} (C0 : tm_C p m c cX9_breaksByVisits 5 s args wsX9_breaksByVisits RX9 meth (some .boolean) g A L tm_all) (w1 : Int32) (w2 : Int32) (w3 : Int32) (k : Int32 → tm_M → Option (Int32 × tm_M)) (R0 : Int32 × tm_M) (hk : ∀ (v4 : Int32) (M : tm_M), k v4 M = some R0 → ∀ (H : Heap) (locs : List Loc) (ls : Array Slot), va_P g.1 vwCl (tm_ws g L M) H → va_S A s.heap H locs → lv_has ls 5 [(0, .ref (g.2.2 + 0)), (1, .int w1), (2, .int w2), (3, .int w3), (4, .int v4)] → W p l e { frames := 4, cells := 0, slots := 0, locals := 88 } s m args below meth c H locs 0 0 (MQ below (tm_QI g A L R0) args s 0 0 A) (F0 m 76 ls [])) : ∀ (n : Nat) (v4 : Int32) (M : tm_M), f_X9_breaksByVisits_L19 k w1 w2 w3 n v4 M = some R0 → ∀ (H : Heap) (locs : List Loc) (ls : Array Slot), va_P g.1 vwCl (tm_ws g L M) H → va_S A s.heap H locs → lv_has ls 5 [(0, .ref (g.2.2 + 0)), (1, .int w1), (2, .int w2), (3, .int w3), (4, .int v4)] → W p l e { frames := 4, cells := 0, slots := 0, locals := 88 } s m args below meth c H locs 0 0 (MQ below (tm_QI g A L R0) args s 0 0 A) (F0 m 19 ls []) := by
  obtain ⟨⟨hx, hb, hml, hown, hts⟩, hr, hlk, hK, hD, hG, hF⟩ := id C0
  intro n
  induction n with
  | zero =>
    intro v4 M h
    simp [f_X9_breaksByVisits_L19] at h
  | succ n ih =>
    intro v4 M h H locs ls hP hS hl
    rw [f_X9_breaksByVisits_L19] at h
    refine lv_iload hx hb dX9_breaksByVisits_19 (lv_at hl 4 rfl) ?_
    refine lv_iload_n hx hb dX9_breaksByVisits_21 rfl (lv_at hl 2 rfl) ?_
    refine lv_icmp_ge (tgt := 76) hx hb dX9_breaksByVisits_22 (by decide) (fun c6 => ?_) (fun c6 => ?_)
    · rw [if_pos c6] at h
      exact hk v4 M h _ _ _ hP hS (lv_sub hl [0, 1, 2, 3, 4] rfl)
    · rw [if_neg c6] at h
      refine lv_iload_n hx hb dX9_breaksByVisits_25 rfl (lv_at hl 3 rfl) ?_
      refine lv_iload hx hb dX9_breaksByVisits_26 (lv_at hl 4 rfl) ?_
      refine lv_ishr hx hb dX9_breaksByVisits_28 ?_
      refine lv_iconst (v := 1) hx hb dX9_breaksByVisits_29 (by decide) ?_
      refine lv_iand hx hb dX9_breaksByVisits_30 ?_
      refine lv_if_eq (tgt := 41) hx hb dX9_breaksByVisits_31 (by decide) (fun c7 => ?_) (fun c7 => ?_)
      · rw [if_pos c7] at h
        refine lv_aload_n hx hb dX9_breaksByVisits_41 rfl (lv_at hl 0 rfl) ?_
        refine tm_get (C := RX9) (T := TX9) (N := 15) (v := .ref (g.2.2 + 125)) hx hb hts nX9_breaksByVisits_X9 hown hK hP (hF 0 (by decide)) (tm_mkX9 (by decide) _) rfl 13 (by decide) (hts _ kX9_breaksByVisits_0) rfl dX9_breaksByVisits_42 ?_
        refine lv_aload_n hx hb dX9_breaksByVisits_45 rfl (lv_at hl 0 rfl) ?_
        refine tm_get (C := RX9) (T := TX9) (N := 15) (v := .ref (g.2.2 + 20)) hx hb hts nX9_breaksByVisits_X9 hown hK hP (hF 0 (by decide)) (tm_mkX9 (by decide) _) rfl 3 (by decide) (hts _ kX9_breaksByVisits_1) rfl dX9_breaksByVisits_46 ?_
        refine tm_get (C := RX8) (T := TX8) (N := 4) (v := .int (M 20 3)) hx hb hts nX9_breaksByVisits_X8 hown hK hP (hF 20 (by decide)) (tm_mkX8 (by decide) _) rfl 3 (by decide) (hts _ kX9_breaksByVisits_3) rfl dX9_breaksByVisits_49 ?_
        refine lv_iload hx hb dX9_breaksByVisits_52 (lv_at hl 4 rfl) ?_
        refine lv_iadd hx hb dX9_breaksByVisits_54 ?_
        refine lv_aload_n hx hb dX9_breaksByVisits_55 rfl (lv_at hl 0 rfl) ?_
        refine tm_get (C := RX9) (T := TX9) (N := 15) (v := .ref (g.2.2 + 20)) hx hb hts nX9_breaksByVisits_X9 hown hK hP (hF 0 (by decide)) (tm_mkX9 (by decide) _) rfl 3 (by decide) (hts _ kX9_breaksByVisits_1) rfl dX9_breaksByVisits_56 ?_
        refine tm_get (C := RX8) (T := TX8) (N := 4) (v := .ref (g.2.2 + 21)) hx hb hts nX9_breaksByVisits_X8 hown hK hP (hF 20 (by decide)) (tm_mkX8 (by decide) _) rfl 0 (by decide) (hts _ kX9_breaksByVisits_4) rfl dX9_breaksByVisits_59 ?_
        obtain ⟨r8, e9, h⟩ := tm_bd_some h
        refine tm_backI (r0 := r8.1) (M0 := r8.2) (fun _ q => q) (tm_callV (As := [.int ((M 20 3) + v4), .ref (g.2.2 + 21)]) (rest := []) ⟨hx, hb, hml, hown, hts⟩ hK hG hP hS (c_X1_pass l g A L hD hF M 125 ((M 20 3) + v4) 21 r8 e9) (cwV 2 hts gX9_breaksByVisits_X1_pass rfl rfl rfl (by decide +kernel) ⟨Nat.le_of_ble_eq_true rfl, Nat.le_of_ble_eq_true rfl⟩) (tm_recv hK hP (hF 125 (by decide)) (ci := 0) rfl (tm_mkX1 (by decide) _)) rfl hl.1 (lv_room (Nat.le_of_ble_eq_true rfl)) dX9_breaksByVisits_62 ⟨Nat.zero_le _, Nat.zero_le _⟩) hS (fun H locs hP hS => ?_)
        refine lv_if_eq (tgt := 70) hx hb dX9_breaksByVisits_65 (by decide) (fun c10 => ?_) (fun c10 => ?_)
        · rw [if_pos c10] at h
          refine lv_iinc (v := v4 + 1) (lv' := [(4, .int (v4 + 1)), (0, .ref (g.2.2 + 0)), (1, .int w1), (2, .int w2), (3, .int w3)]) hx hb dX9_breaksByVisits_70 hl (k := 4) rfl rfl (by decide) rfl (fun ls hl => ?_)
          refine lv_goto (tgt := 19) hx hb dX9_breaksByVisits_73 (by decide) ?_
          exact ih (v4 + 1) r8.2 h _ _ _ hP hS (lv_sub hl [1, 2, 3, 4, 0] rfl)
        · rw [if_neg c10] at h
          refine lv_iconst (v := 1) hx hb dX9_breaksByVisits_68 (by decide) ?_
          exact tm_zret C0 (by unfold tm_isB; decide) (Option.some.inj h) hP hS dX9_breaksByVisits_69
      · rw [if_neg c7] at h
        refine lv_aload_n hx hb dX9_breaksByVisits_34 rfl (lv_at hl 0 rfl) ?_
        refine tm_get (C := RX9) (T := TX9) (N := 15) (v := .ref (g.2.2 + 125)) hx hb hts nX9_breaksByVisits_X9 hown hK hP (hF 0 (by decide)) (tm_mkX9 (by decide) _) rfl 13 (by decide) (hts _ kX9_breaksByVisits_0) rfl dX9_breaksByVisits_35 ?_
        obtain ⟨M13, e12, h⟩ := tm_bd_some h
        refine tm_backV (M0 := M13) (fun _ q => q) (tm_callV (As := []) (rest := []) ⟨hx, hb, hml, hown, hts⟩ hK hG hP hS (c_X1_beVisited l g A L hD hF M 125 M13 e12) (cwV 0 hts gX9_breaksByVisits_X1_beVisited rfl rfl rfl (by decide +kernel) ⟨Nat.le_of_ble_eq_true rfl, Nat.le_of_ble_eq_true rfl⟩) (tm_recv hK hP (hF 125 (by decide)) (ci := 0) rfl (tm_mkX1 (by decide) _)) rfl hl.1 (lv_room (Nat.le_of_ble_eq_true rfl)) dX9_breaksByVisits_38 ⟨Nat.zero_le _, Nat.zero_le _⟩) hS (fun H locs hP hS => ?_)
        refine lv_aload_n hx hb dX9_breaksByVisits_41 rfl (lv_at hl 0 rfl) ?_
        refine tm_get (C := RX9) (T := TX9) (N := 15) (v := .ref (g.2.2 + 125)) hx hb hts nX9_breaksByVisits_X9 hown hK hP (hF 0 (by decide)) (tm_mkX9 (by decide) _) rfl 13 (by decide) (hts _ kX9_breaksByVisits_0) rfl dX9_breaksByVisits_42 ?_
        refine lv_aload_n hx hb dX9_breaksByVisits_45 rfl (lv_at hl 0 rfl) ?_
        refine tm_get (C := RX9) (T := TX9) (N := 15) (v := .ref (g.2.2 + 20)) hx hb hts nX9_breaksByVisits_X9 hown hK hP (hF 0 (by decide)) (tm_mkX9 (by decide) _) rfl 3 (by decide) (hts _ kX9_breaksByVisits_1) rfl dX9_breaksByVisits_46 ?_
        refine tm_get (C := RX8) (T := TX8) (N := 4) (v := .int (M13 20 3)) hx hb hts nX9_breaksByVisits_X8 hown hK hP (hF 20 (by decide)) (tm_mkX8 (by decide) _) rfl 3 (by decide) (hts _ kX9_breaksByVisits_3) rfl dX9_breaksByVisits_49 ?_
        refine lv_iload hx hb dX9_breaksByVisits_52 (lv_at hl 4 rfl) ?_
        refine lv_iadd hx hb dX9_breaksByVisits_54 ?_
        refine lv_aload_n hx hb dX9_breaksByVisits_55 rfl (lv_at hl 0 rfl) ?_
        refine tm_get (C := RX9) (T := TX9) (N := 15) (v := .ref (g.2.2 + 20)) hx hb hts nX9_breaksByVisits_X9 hown hK hP (hF 0 (by decide)) (tm_mkX9 (by decide) _) rfl 3 (by decide) (hts _ kX9_breaksByVisits_1) rfl dX9_breaksByVisits_56 ?_
        refine tm_get (C := RX8) (T := TX8) (N := 4) (v := .ref (g.2.2 + 21)) hx hb hts nX9_breaksByVisits_X8 hown hK hP (hF 20 (by decide)) (tm_mkX8 (by decide) _) rfl 0 (by decide) (hts _ kX9_breaksByVisits_4) rfl dX9_breaksByVisits_59 ?_
        obtain ⟨r14, e15, h⟩ := tm_bd_some h
        refine tm_backI (r0 := r14.1) (M0 := r14.2) (fun _ q => q) (tm_callV (As := [.int ((M13 20 3) + v4), .ref (g.2.2 + 21)]) (rest := []) ⟨hx, hb, hml, hown, hts⟩ hK hG hP hS (c_X1_pass l g A L hD hF M13 125 ((M13 20 3) + v4) 21 r14 e15) (cwV 2 hts gX9_breaksByVisits_X1_pass rfl rfl rfl (by decide +kernel) ⟨Nat.le_of_ble_eq_true rfl, Nat.le_of_ble_eq_true rfl⟩) (tm_recv hK hP (hF 125 (by decide)) (ci := 0) rfl (tm_mkX1 (by decide) _)) rfl hl.1 (lv_room (Nat.le_of_ble_eq_true rfl)) dX9_breaksByVisits_62 ⟨Nat.zero_le _, Nat.zero_le _⟩) hS (fun H locs hP hS => ?_)
        refine lv_if_eq (tgt := 70) hx hb dX9_breaksByVisits_65 (by decide) (fun c16 => ?_) (fun c16 => ?_)
        · rw [if_pos c16] at h
          refine lv_iinc (v := v4 + 1) (lv' := [(4, .int (v4 + 1)), (0, .ref (g.2.2 + 0)), (1, .int w1), (2, .int w2), (3, .int w3)]) hx hb dX9_breaksByVisits_70 hl (k := 4) rfl rfl (by decide) rfl (fun ls hl => ?_)
          refine lv_goto (tgt := 19) hx hb dX9_breaksByVisits_73 (by decide) ?_
          exact ih (v4 + 1) r14.2 h _ _ _ hP hS (lv_sub hl [1, 2, 3, 4, 0] rfl)
        · rw [if_neg c16] at h
          refine lv_iconst (v := 1) hx hb dX9_breaksByVisits_68 (by decide) ?_
          exact tm_zret C0 (by unfold tm_isB; decide) (Option.some.inj h) hP hS dX9_breaksByVisits_69
set_option maxHeartbeats 4000000 in
set_option maxRecDepth 100000 in
theorem c_X9_breaksByVisits (l : Launch) (g : tm_G) (A : Nat → Prop) (L : List Nat) (hD : ∀ M, va_D A (tm_ws g L M)) (hF : ∀ o, tm_all o → o ∈ L) (M : tm_M) (p1 : Int32) (p2 : Int32) (p3 : Int32) (R0 : Int32 × tm_M) (h : f_X9_breaksByVisits M p1 p2 p3 = some R0) : Met l yX9_breaksByVisits wsX9_breaksByVisits { frames := 4, cells := 0, slots := 0, locals := 88 } (tm_PC g A L M [.ref (g.2.2 + 0), .int p1, .int p2, .int p3]) (tm_QI g A L R0) 0 0 A := by
  refine tm_start (cc := cX9_breaksByVisits) (nL := 5) (ret := (some .boolean)) (F := tm_all) (plainFor_of_name (by decide)) rfl (Nat.le_of_ble_eq_true rfl) hD hF (fun p e s m args below meth c ls C0 hP hS hl => ?_)
  have hl : lv_has ls 5 [(0, .ref (g.2.2 + 0)), (1, .int p1), (2, .int p2), (3, .int p3)] := hl
  have C0 : tm_C p m c cX9_breaksByVisits 5 s args wsX9_breaksByVisits RX9 meth (some .boolean) g A L tm_all := C0
  obtain ⟨⟨hx, hb, hml, hown, hts⟩, hr, hlk, hK, hD, hG, hF⟩ := id C0
  unfold f_X9_breaksByVisits at h
  refine lv_aload_n hx hb dX9_breaksByVisits_0 rfl (lv_at hl 0 rfl) ?_
  refine tm_get (C := RX9) (T := TX9) (N := 15) (v := .ref (g.2.2 + 125)) hx hb hts nX9_breaksByVisits_X9 hown hK hP (hF 0 (by decide)) (tm_mkX9 (by decide) _) rfl 13 (by decide) (hts _ kX9_breaksByVisits_0) rfl dX9_breaksByVisits_1 ?_
  refine lv_aload_n hx hb dX9_breaksByVisits_4 rfl (lv_at hl 0 rfl) ?_
  refine tm_get (C := RX9) (T := TX9) (N := 15) (v := .ref (g.2.2 + 20)) hx hb hts nX9_breaksByVisits_X9 hown hK hP (hF 0 (by decide)) (tm_mkX9 (by decide) _) rfl 3 (by decide) (hts _ kX9_breaksByVisits_1) rfl dX9_breaksByVisits_5 ?_
  refine tm_get (C := RX8) (T := TX8) (N := 4) (v := .ref (g.2.2 + 22)) hx hb hts nX9_breaksByVisits_X8 hown hK hP (hF 20 (by decide)) (tm_mkX8 (by decide) _) rfl 1 (by decide) (hts _ kX9_breaksByVisits_2) rfl dX9_breaksByVisits_8 ?_
  refine lv_iload_n hx hb dX9_breaksByVisits_11 rfl (lv_at hl 1 rfl) ?_
  obtain ⟨x1, e2, h⟩ := tm_bd_some h
  refine tm_aald hx hb hK hP 3 (hF 22 (by decide)) (tm_mkL (by decide)) rfl e2 dX9_breaksByVisits_12 ?_
  obtain ⟨M5, e4, h⟩ := tm_bd_some h
  refine tm_backV (M0 := M5) (fun _ q => q) (tm_callV (As := [.ref (g.2.2 + x1)]) (rest := []) ⟨hx, hb, hml, hown, hts⟩ hK hG hP hS (c_X1_copy l g A L hD hF M 125 x1 M5 e4) (cwV 1 hts gX9_breaksByVisits_X1_copy rfl rfl rfl (by decide +kernel) ⟨Nat.le_of_ble_eq_true rfl, Nat.le_of_ble_eq_true rfl⟩) (tm_recv hK hP (hF 125 (by decide)) (ci := 0) rfl (tm_mkX1 (by decide) _)) rfl hl.1 (lv_room (Nat.le_of_ble_eq_true rfl)) dX9_breaksByVisits_13 ⟨Nat.zero_le _, Nat.zero_le _⟩) hS (fun H locs hP hS => ?_)
  refine lv_iconst (v := 0) hx hb dX9_breaksByVisits_16 (by decide) ?_
  refine lv_istore (lv' := [(4, .int 0), (0, .ref (g.2.2 + 0)), (1, .int p1), (2, .int p2), (3, .int p3)]) hx hb dX9_breaksByVisits_17 hl (by decide) rfl (fun ls hl => ?_)
  refine w_X9_breaksByVisits_L19 C0 p1 p2 p3 _ R0 (fun v17 M18 h H locs ls hP hS hl => ?_) 1000 0 M5 h _ _ _ hP hS (lv_sub hl [1, 2, 3, 4, 0] rfl)
  refine lv_iconst (v := 0) hx hb dX9_breaksByVisits_76 (by decide) ?_
  exact tm_zret C0 (by unfold tm_isB; decide) (Option.some.inj h) hP hS dX9_breaksByVisits_77
/-! X9_oddsOfVisits -/
def f_X9_oddsOfVisits_L5 (k : Int32 → Int32 → Option Int32) (w0 : Int32) (w1 : Int32) (w2 : Int32) : Nat → Int32 → Int32 → Option Int32
  | 0, _, _ => none
  | n + 1, v3, v4 =>
    if w0 ≤ v4 then
      k v3 v4
    else
      if ((w1 >>> (v4 &&& 31)) &&& 1) = 0 then
        (some (v3 * (10 - w2))).bind fun x3 =>
        f_X9_oddsOfVisits_L5 k w0 w1 w2 n x3 (v4 + 1)
      else
        (some (v3 * w2)).bind fun x4 =>
        f_X9_oddsOfVisits_L5 k w0 w1 w2 n x4 (v4 + 1)
def f_X9_oddsOfVisits (p0 : Int32) (p1 : Int32) (p2 : Int32) : Option Int32 :=
  f_X9_oddsOfVisits_L5 (fun v5 v6 =>
    some v5) p0 p1 p2 1000 1 0
set_option maxHeartbeats 4000000 in
set_option maxRecDepth 100000 in
theorem w_X9_oddsOfVisits_L5 {p : Program} {l : Launch} {e : Env} {s : State} {m : MethodId} {args : Array Value} {below : List Frame} {meth : Method} {c : Code} {g : tm_G} {A : Nat → Prop} {L : List Nat} (C0 : tm_C p m c cX9_oddsOfVisits 5 s args wsX9_oddsOfVisits RX9 meth (some .int) g A L tm_all) (M : tm_M) (w0 : Int32) (w1 : Int32) (w2 : Int32) (k : Int32 → Int32 → Option Int32) (r0 : Int32) (hk : ∀ (v3 : Int32) (v4 : Int32), k v3 v4 = some r0 → ∀ (H : Heap) (locs : List Loc) (ls : Array Slot), va_P g.1 vwCl (tm_ws g L M) H → va_S A s.heap H locs → lv_has ls 5 [(0, .int w0), (1, .int w1), (2, .int w2), (3, .int v3), (4, .int v4)] → W p l e { frames := 0, cells := 0, slots := 0, locals := 0 } s m args below meth c H locs 0 0 (MQ below (tm_QI g A L (r0, M)) args s 0 0 A) (F0 m 37 ls [])) : ∀ (n : Nat) (v3 : Int32) (v4 : Int32), f_X9_oddsOfVisits_L5 k w0 w1 w2 n v3 v4 = some r0 → ∀ (H : Heap) (locs : List Loc) (ls : Array Slot), va_P g.1 vwCl (tm_ws g L M) H → va_S A s.heap H locs → lv_has ls 5 [(0, .int w0), (1, .int w1), (2, .int w2), (3, .int v3), (4, .int v4)] → W p l e { frames := 0, cells := 0, slots := 0, locals := 0 } s m args below meth c H locs 0 0 (MQ below (tm_QI g A L (r0, M)) args s 0 0 A) (F0 m 5 ls []) := by
  obtain ⟨⟨hx, hb, hml, hown, hts⟩, hr, hlk, hK, hD, hG, hF⟩ := id C0
  intro n
  induction n with
  | zero =>
    intro v3 v4 h
    simp [f_X9_oddsOfVisits_L5] at h
  | succ n ih =>
    intro v3 v4 h H locs ls hP hS hl
    rw [f_X9_oddsOfVisits_L5] at h
    refine lv_iload hx hb dX9_oddsOfVisits_5 (lv_at hl 4 rfl) ?_
    refine lv_iload_n hx hb dX9_oddsOfVisits_7 rfl (lv_at hl 0 rfl) ?_
    refine lv_icmp_ge (tgt := 37) hx hb dX9_oddsOfVisits_8 (by decide) (fun c1 => ?_) (fun c1 => ?_)
    · rw [if_pos c1] at h
      exact hk v3 v4 h _ _ _ hP hS (lv_sub hl [0, 1, 2, 3, 4] rfl)
    · rw [if_neg c1] at h
      refine lv_iload_n hx hb dX9_oddsOfVisits_11 rfl (lv_at hl 3 rfl) ?_
      refine lv_iload_n hx hb dX9_oddsOfVisits_12 rfl (lv_at hl 1 rfl) ?_
      refine lv_iload hx hb dX9_oddsOfVisits_13 (lv_at hl 4 rfl) ?_
      refine lv_ishr hx hb dX9_oddsOfVisits_15 ?_
      refine lv_iconst (v := 1) hx hb dX9_oddsOfVisits_16 (by decide) ?_
      refine lv_iand hx hb dX9_oddsOfVisits_17 ?_
      refine lv_if_eq (tgt := 25) hx hb dX9_oddsOfVisits_18 (by decide) (fun c2 => ?_) (fun c2 => ?_)
      · rw [if_pos c2] at h
        refine lv_bipush (v := 10) hx hb dX9_oddsOfVisits_25 (by decide) ?_
        refine lv_iload_n hx hb dX9_oddsOfVisits_27 rfl (lv_at hl 2 rfl) ?_
        refine lv_isub hx hb dX9_oddsOfVisits_28 ?_
        refine lv_imul hx hb dX9_oddsOfVisits_29 ?_
        refine tm_nam h (fun x3 h => ?_)
        refine lv_istore_n (lv' := [(3, .int x3), (0, .int w0), (1, .int w1), (2, .int w2), (4, .int v4)]) hx hb dX9_oddsOfVisits_30 rfl hl (by decide) rfl (fun ls hl => ?_)
        refine lv_iinc (v := v4 + 1) (lv' := [(4, .int (v4 + 1)), (3, .int x3), (0, .int w0), (1, .int w1), (2, .int w2)]) hx hb dX9_oddsOfVisits_31 hl (k := 4) rfl rfl (by decide) rfl (fun ls hl => ?_)
        refine lv_goto (tgt := 5) hx hb dX9_oddsOfVisits_34 (by decide) ?_
        exact ih x3 (v4 + 1) h _ _ _ hP hS (lv_sub hl [2, 3, 4, 1, 0] rfl)
      · rw [if_neg c2] at h
        refine lv_iload_n hx hb dX9_oddsOfVisits_21 rfl (lv_at hl 2 rfl) ?_
        refine lv_goto (tgt := 29) hx hb dX9_oddsOfVisits_22 (by decide) ?_
        refine lv_imul hx hb dX9_oddsOfVisits_29 ?_
        refine tm_nam h (fun x4 h => ?_)
        refine lv_istore_n (lv' := [(3, .int x4), (0, .int w0), (1, .int w1), (2, .int w2), (4, .int v4)]) hx hb dX9_oddsOfVisits_30 rfl hl (by decide) rfl (fun ls hl => ?_)
        refine lv_iinc (v := v4 + 1) (lv' := [(4, .int (v4 + 1)), (3, .int x4), (0, .int w0), (1, .int w1), (2, .int w2)]) hx hb dX9_oddsOfVisits_31 hl (k := 4) rfl rfl (by decide) rfl (fun ls hl => ?_)
        refine lv_goto (tgt := 5) hx hb dX9_oddsOfVisits_34 (by decide) ?_
        exact ih x4 (v4 + 1) h _ _ _ hP hS (lv_sub hl [2, 3, 4, 1, 0] rfl)
set_option maxHeartbeats 4000000 in
set_option maxRecDepth 100000 in
theorem c_X9_oddsOfVisits (l : Launch) (g : tm_G) (A : Nat → Prop) (L : List Nat) (hD : ∀ M, va_D A (tm_ws g L M)) (hF : ∀ o, tm_all o → o ∈ L) (M : tm_M) (p0 : Int32) (p1 : Int32) (p2 : Int32) (r0 : Int32) (h : f_X9_oddsOfVisits p0 p1 p2 = some r0) : Met l yX9_oddsOfVisits wsX9_oddsOfVisits { frames := 0, cells := 0, slots := 0, locals := 0 } (tm_PC g A L M [.int p0, .int p1, .int p2]) (tm_QI g A L (r0, M)) 0 0 A := by
  refine tm_start (cc := cX9_oddsOfVisits) (nL := 5) (ret := (some .int)) (F := tm_all) (plainFor_of_name (by decide)) rfl (Nat.le_of_ble_eq_true rfl) hD hF (fun p e s m args below meth c ls C0 hP hS hl => ?_)
  have hl : lv_has ls 5 [(0, .int p0), (1, .int p1), (2, .int p2)] := hl
  have C0 : tm_C p m c cX9_oddsOfVisits 5 s args wsX9_oddsOfVisits RX9 meth (some .int) g A L tm_all := C0
  obtain ⟨⟨hx, hb, hml, hown, hts⟩, hr, hlk, hK, hD, hG, hF⟩ := id C0
  unfold f_X9_oddsOfVisits at h
  refine lv_iconst (v := 1) hx hb dX9_oddsOfVisits_0 (by decide) ?_
  refine lv_istore_n (lv' := [(3, .int 1), (0, .int p0), (1, .int p1), (2, .int p2)]) hx hb dX9_oddsOfVisits_1 rfl hl (by decide) rfl (fun ls hl => ?_)
  refine lv_iconst (v := 0) hx hb dX9_oddsOfVisits_2 (by decide) ?_
  refine lv_istore (lv' := [(4, .int 0), (3, .int 1), (0, .int p0), (1, .int p1), (2, .int p2)]) hx hb dX9_oddsOfVisits_3 hl (by decide) rfl (fun ls hl => ?_)
  refine w_X9_oddsOfVisits_L5 C0 M p0 p1 p2 _ r0 (fun v5 v6 h H locs ls hP hS hl => ?_) 1000 1 0 h _ _ _ hP hS (lv_sub hl [2, 3, 4, 1, 0] rfl)
  refine lv_iload_n hx hb dX9_oddsOfVisits_37 rfl (lv_at hl 3 rfl) ?_
  exact tm_iret C0 (by rw [Option.some.inj h]) hP hS dX9_oddsOfVisits_38
/-! X9_commonDivisor -/
theorem kX9_commonDivisor_0 : Cond.methodLink RX9 272 Lib.Math.max.name ∈ wsX9_commonDivisor := by decide +kernel
theorem kX9_commonDivisor_1 : Cond.static Lib.Math.max.name ∈ wsX9_commonDivisor := by decide +kernel
theorem kX9_commonDivisor_2 : Cond.initialized "java/lang/Math" ∈ wsX9_commonDivisor := by decide +kernel
theorem kX9_commonDivisor_3 : Cond.code Lib.Math.max.name Lib.Math.max.code 2 (some .int) ∈ wsX9_commonDivisor := by decide +kernel
def f_X9_commonDivisor_L7 (k : Int32 → Int32 → Int32 → Option Int32) (w0 : Int32) (w1 : Int32) : Nat → Int32 → Int32 → Int32 → Option Int32
  | 0, _, _, _ => none
  | n + 1, v2, v3, v4 =>
    if 64 ≤ v4 then
      k v2 v3 v4
    else
      if v3 ≤ 0 then
        k v2 v3 v4
      else
        tm_gd (¬ v3 = 0) <|
        (some (v2 - v2 / v3 * v3)).bind fun x4 =>
        f_X9_commonDivisor_L7 k w0 w1 n v3 x4 (v4 + 1)
def f_X9_commonDivisor (p0 : Int32) (p1 : Int32) : Option Int32 :=
  f_X9_commonDivisor_L7 (fun v5 v6 v7 =>
    some (if 1 < v5 then v5 else 1)) p0 p1 1000 p0 p1 0
set_option maxHeartbeats 4000000 in
set_option maxRecDepth 100000 in
theorem w_X9_commonDivisor_L7 {p : Program} {l : Launch} {e : Env} {s : State} {m : MethodId} {args : Array Value} {below : List Frame} {meth : Method} {c : Code} {g : tm_G} {A : Nat → Prop} {L : List Nat} (C0 : tm_C p m c cX9_commonDivisor 6 s args wsX9_commonDivisor RX9 meth (some .int) g A L tm_all) (M : tm_M) (w0 : Int32) (w1 : Int32) (k : Int32 → Int32 → Int32 → Option Int32) (r0 : Int32) (hk : ∀ (v2 : Int32) (v3 : Int32) (v4 : Int32), k v2 v3 v4 = some r0 → ∀ (H : Heap) (locs : List Loc) (ls : Array Slot), va_P g.1 vwCl (tm_ws g L M) H → va_S A s.heap H locs → lv_has ls 6 [(0, .int w0), (1, .int w1), (2, .int v2), (3, .int v3), (4, .int v4)] → W p l e { frames := 1, cells := 0, slots := 0, locals := 21 } s m args below meth c H locs 0 0 (MQ below (tm_QI g A L (r0, M)) args s 0 0 A) (F0 m 34 ls [])) : ∀ (n : Nat) (v2 : Int32) (v3 : Int32) (v4 : Int32), f_X9_commonDivisor_L7 k w0 w1 n v2 v3 v4 = some r0 → ∀ (H : Heap) (locs : List Loc) (ls : Array Slot), va_P g.1 vwCl (tm_ws g L M) H → va_S A s.heap H locs → lv_has ls 6 [(0, .int w0), (1, .int w1), (2, .int v2), (3, .int v3), (4, .int v4)] → W p l e { frames := 1, cells := 0, slots := 0, locals := 21 } s m args below meth c H locs 0 0 (MQ below (tm_QI g A L (r0, M)) args s 0 0 A) (F0 m 7 ls []) := by
  obtain ⟨⟨hx, hb, hml, hown, hts⟩, hr, hlk, hK, hD, hG, hF⟩ := id C0
  intro n
  induction n with
  | zero =>
    intro v2 v3 v4 h
    simp [f_X9_commonDivisor_L7] at h
  | succ n ih =>
    intro v2 v3 v4 h H locs ls hP hS hl
    rw [f_X9_commonDivisor_L7] at h
    refine lv_iload hx hb dX9_commonDivisor_7 (lv_at hl 4 rfl) ?_
    refine lv_bipush (v := 64) hx hb dX9_commonDivisor_9 (by decide) ?_
    refine lv_icmp_ge (tgt := 34) hx hb dX9_commonDivisor_11 (by decide) (fun c1 => ?_) (fun c1 => ?_)
    · rw [if_pos c1] at h
      exact hk v2 v3 v4 h _ _ _ hP hS (lv_sub hl [0, 1, 2, 3, 4] rfl)
    · rw [if_neg c1] at h
      refine lv_iload_n hx hb dX9_commonDivisor_14 rfl (lv_at hl 3 rfl) ?_
      refine lv_if_le (tgt := 34) hx hb dX9_commonDivisor_15 (by decide) (fun c2 => ?_) (fun c2 => ?_)
      · rw [if_pos c2] at h
        exact hk v2 v3 v4 h _ _ _ hP hS (lv_sub hl [0, 1, 2, 3, 4] rfl)
      · rw [if_neg c2] at h
        refine lv_iload_n hx hb dX9_commonDivisor_18 rfl (lv_at hl 2 rfl) ?_
        refine lv_iload_n hx hb dX9_commonDivisor_19 rfl (lv_at hl 3 rfl) ?_
        obtain ⟨g3, h⟩ := tm_gd_some h
        refine lv_irem hx hb dX9_commonDivisor_20 g3 ?_
        refine tm_nam h (fun x4 h => ?_)
        refine lv_istore (lv' := [(5, .int x4), (0, .int w0), (1, .int w1), (2, .int v2), (3, .int v3), (4, .int v4)]) hx hb dX9_commonDivisor_21 hl (by decide) rfl (fun ls hl => ?_)
        refine lv_iload_n hx hb dX9_commonDivisor_23 rfl (lv_at hl 4 rfl) ?_
        refine lv_istore_n (lv' := [(2, .int v3), (5, .int x4), (0, .int w0), (1, .int w1), (3, .int v3), (4, .int v4)]) hx hb dX9_commonDivisor_24 rfl hl (by decide) rfl (fun ls hl => ?_)
        refine lv_iload hx hb dX9_commonDivisor_25 (lv_at hl 1 rfl) ?_
        refine lv_istore_n (lv' := [(3, .int x4), (2, .int v3), (5, .int x4), (0, .int w0), (1, .int w1), (4, .int v4)]) hx hb dX9_commonDivisor_27 rfl hl (by decide) rfl (fun ls hl => ?_)
        refine lv_iinc (v := v4 + 1) (lv' := [(4, .int (v4 + 1)), (3, .int x4), (2, .int v3), (5, .int x4), (0, .int w0), (1, .int w1)]) hx hb dX9_commonDivisor_28 hl (k := 5) rfl rfl (by decide) rfl (fun ls hl => ?_)
        refine lv_goto (tgt := 7) hx hb dX9_commonDivisor_31 (by decide) ?_
        exact ih v3 x4 (v4 + 1) h _ _ _ hP hS (lv_sub hl [4, 5, 2, 1, 0] rfl)
set_option maxHeartbeats 4000000 in
set_option maxRecDepth 100000 in
theorem c_X9_commonDivisor (l : Launch) (g : tm_G) (A : Nat → Prop) (L : List Nat) (hD : ∀ M, va_D A (tm_ws g L M)) (hF : ∀ o, tm_all o → o ∈ L) (M : tm_M) (p0 : Int32) (p1 : Int32) (r0 : Int32) (h : f_X9_commonDivisor p0 p1 = some r0) : Met l yX9_commonDivisor wsX9_commonDivisor { frames := 1, cells := 0, slots := 0, locals := 21 } (tm_PC g A L M [.int p0, .int p1]) (tm_QI g A L (r0, M)) 0 0 A := by
  refine tm_start (cc := cX9_commonDivisor) (nL := 6) (ret := (some .int)) (F := tm_all) (plainFor_of_name (by decide)) rfl (Nat.le_of_ble_eq_true rfl) hD hF (fun p e s m args below meth c ls C0 hP hS hl => ?_)
  have hl : lv_has ls 6 [(0, .int p0), (1, .int p1)] := hl
  have C0 : tm_C p m c cX9_commonDivisor 6 s args wsX9_commonDivisor RX9 meth (some .int) g A L tm_all := C0
  obtain ⟨⟨hx, hb, hml, hown, hts⟩, hr, hlk, hK, hD, hG, hF⟩ := id C0
  unfold f_X9_commonDivisor at h
  refine lv_iload_n hx hb dX9_commonDivisor_0 rfl (lv_at hl 0 rfl) ?_
  refine lv_istore_n (lv' := [(2, .int p0), (0, .int p0), (1, .int p1)]) hx hb dX9_commonDivisor_1 rfl hl (by decide) rfl (fun ls hl => ?_)
  refine lv_iload_n hx hb dX9_commonDivisor_2 rfl (lv_at hl 2 rfl) ?_
  refine lv_istore_n (lv' := [(3, .int p1), (2, .int p0), (0, .int p0), (1, .int p1)]) hx hb dX9_commonDivisor_3 rfl hl (by decide) rfl (fun ls hl => ?_)
  refine lv_iconst (v := 0) hx hb dX9_commonDivisor_4 (by decide) ?_
  refine lv_istore (lv' := [(4, .int 0), (3, .int p1), (2, .int p0), (0, .int p0), (1, .int p1)]) hx hb dX9_commonDivisor_5 hl (by decide) rfl (fun ls hl => ?_)
  refine w_X9_commonDivisor_L7 C0 M p0 p1 _ r0 (fun v5 v6 v7 h H locs ls hP hS hl => ?_) 1000 p0 p1 0 h _ _ _ hP hS (lv_sub hl [3, 4, 2, 1, 0] rfl)
  refine lv_iconst (v := 1) hx hb dX9_commonDivisor_34 (by decide) ?_
  refine lv_iload_n hx hb dX9_commonDivisor_35 rfl (lv_at hl 2 rfl) ?_
  refine va_mmax hx hb (hml.trans hl.1.symm) hown (hts _ kX9_commonDivisor_0) (hts _ kX9_commonDivisor_1) (hts _ kX9_commonDivisor_2) (hts _ kX9_commonDivisor_3) (Nat.le_of_ble_eq_true rfl) (Nat.le_of_ble_eq_true rfl) (Nat.zero_le _) (Nat.zero_le _) dX9_commonDivisor_36 ?_
  exact tm_iret C0 (by rw [Option.some.inj h]) hP hS dX9_commonDivisor_39
