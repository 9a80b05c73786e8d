/-! X9_mothers -/
def f_X9_mothers_L50 (k : Int32 → Int32 → tm_M → Option (Int32 × tm_M)) (w1 : Int32) (w2 : Int32) (w3 : Int32) (w4 : Int32) : Nat → Int32 → Int32 → tm_M → Option (Int32 × tm_M)
  | 0, _, _, _ => none
  | n + 1, v5, v6, M =>
    if (1 <<< (w2 &&& 31)) ≤ v6 then
      k v5 v6 M
    else
      (f_X9_breaksByVisits M w1 w2 v6).bind fun r14 =>
      if r14.1 = 0 then
        f_X9_mothers_L50 k w1 w2 w3 w4 n v5 (v6 + 1) r14.2
      else
        (f_X9_oddsOfVisits w2 v6 w3).bind fun r17 =>
        (some (v5 + r17)).bind fun x19 =>
        f_X9_mothers_L50 k w1 w2 w3 w4 n x19 (v6 + 1) r14.2
def f_X9_mothers_L93 (k : Int32 → Int32 → Option (Int32 × tm_M)) (M : tm_M) (w1 : Int32) (w2 : Int32) (w3 : Int32) (w4 : Int32) (w5 : Int32) : Nat → Int32 → Int32 → Option (Int32 × tm_M)
  | 0, _, _ => none
  | n + 1, v6, v7 =>
    if w2 ≤ v7 then
      k v6 v7
    else
      (some (v6 * 10)).bind fun x24 =>
      f_X9_mothers_L93 k M w1 w2 w3 w4 w5 n x24 (v7 + 1)
def f_X9_mothers (M : tm_M) (p1 : Int32) (p2 : Int32) (p3 : Int32) (p4 : Int32) : Option (Int32 × tm_M) :=
  (f_X9_unknown M p1).bind fun r1 =>
  if r1 = 0 then
    (f_X9_outside p2 0 6).bind fun r4 =>
    if r4 = 0 then
      (f_X9_outside p3 0 10).bind fun r7 =>
      if r7 = 0 then
        (f_X9_outside p4 0 1).bind fun r10 =>
        if r10 = 0 then
          f_X9_mothers_L50 (fun v20 v21 M22 =>
            f_X9_mothers_L93 (fun v25 v26 =>
              (f_X9_commonDivisor v20 v25).bind fun r27 =>
              if p4 = 0 then
                tm_gd (¬ r27 = 0) <|
                some (v20 / r27, M22)
              else
                tm_gd (¬ r27 = 0) <|
                some (v25 / r27, M22)) M22 p1 p2 p3 p4 v20 1000 1 0) p1 p2 p3 p4 1000 0 0 M
        else
          some ((-3), M)
      else
        some ((-3), M)
    else
      some ((-3), M)
  else
    some ((-2), M)
set_option maxHeartbeats 4000000 in
set_option maxRecDepth 100000 in
theorem w_X9_mothers_L50 {p : Program} {l : Launch} {e : Env} {s : State} {m : MethodId} {args : Array Value} {below : List Frame} {meth : Method} {c : Code} {g : tm_G} {A : Nat → Prop} {L : List Nat} (C0 : tm_C p m c cX9_mothers 8 s args wsX9_mothers RX9 meth (some .int) g A L tm_all) (w1 : Int32) (w2 : Int32) (w3 : Int32) (w4 : Int32) (k : Int32 → Int32 → tm_M → Option (Int32 × tm_M)) (R0 : Int32 × tm_M) (hk : ∀ (v5 : Int32) (v6 : Int32) (M : tm_M), k v5 v6 M = some R0 → ∀ (H : Heap) (locs : List Loc) (ls : Array Slot), va_P g.1 vwCl (tm_ws g L M) H → va_S A s.heap H locs → lv_has ls 8 [(0, .ref (g.2.2 + 0)), (1, .int w1), (2, .int w2), (3, .int w3), (4, .int w4), (5, .int v5), (6, .int v6)] → W p l e { frames := 5, cells := 0, slots := 0, locals := 112 } s m args below meth c H locs 0 0 (MQ below (tm_QI g A L R0) args s 0 0 A) (F0 m 87 ls [])) : ∀ (n : Nat) (v5 : Int32) (v6 : Int32) (M : tm_M), f_X9_mothers_L50 k w1 w2 w3 w4 n v5 v6 M = some R0 → ∀ (H : Heap) (locs : List Loc) (ls : Array Slot), va_P g.1 vwCl (tm_ws g L M) H → va_S A s.heap H locs → lv_has ls 8 [(0, .ref (g.2.2 + 0)), (1, .int w1), (2, .int w2), (3, .int w3), (4, .int w4), (5, .int v5), (6, .int v6)] → W p l e { frames := 5, cells := 0, slots := 0, locals := 112 } s m args below meth c H locs 0 0 (MQ below (tm_QI g A L R0) args s 0 0 A) (F0 m 50 ls []) := by
  obtain ⟨⟨hx, hb, hml, hown, hts⟩, hr, hlk, hK, hD, hG, hF⟩ := id C0
  intro n
  induction n with
  | zero =>
    intro v5 v6 M h
    simp [f_X9_mothers_L50] at h
  | succ n ih =>
    intro v5 v6 M h H locs ls hP hS hl
    rw [f_X9_mothers_L50] at h
    refine lv_iload hx hb dX9_mothers_50 (lv_at hl 6 rfl) ?_
    refine lv_iconst (v := 1) hx hb dX9_mothers_52 (by decide) ?_
    refine lv_iload_n hx hb dX9_mothers_53 rfl (lv_at hl 2 rfl) ?_
    refine lv_ishl hx hb dX9_mothers_54 ?_
    refine lv_icmp_ge (tgt := 87) hx hb dX9_mothers_55 (by decide) (fun c13 => ?_) (fun c13 => ?_)
    · rw [if_pos c13] at h
      exact hk v5 v6 M h _ _ _ hP hS (lv_sub hl [0, 1, 2, 3, 4, 5, 6] rfl)
    · rw [if_neg c13] at h
      refine lv_aload_n hx hb dX9_mothers_58 rfl (lv_at hl 0 rfl) ?_
      refine lv_iload_n hx hb dX9_mothers_59 rfl (lv_at hl 1 rfl) ?_
      refine lv_iload_n hx hb dX9_mothers_60 rfl (lv_at hl 2 rfl) ?_
      refine lv_iload hx hb dX9_mothers_61 (lv_at hl 6 rfl) ?_
      obtain ⟨r14, e15, h⟩ := tm_bd_some h
      refine tm_backI (r0 := r14.1) (M0 := r14.2) (fun _ q => q) (tm_callV (As := [.int w1, .int w2, .int v6]) (rest := []) ⟨hx, hb, hml, hown, hts⟩ hK hG hP hS (c_X9_breaksByVisits l g A L hD hF M w1 w2 v6 r14 e15) (cwV 3 hts gX9_mothers_X9_breaksByVisits rfl rfl rfl (by decide +kernel) ⟨Nat.le_of_ble_eq_true rfl, Nat.le_of_ble_eq_true rfl⟩) (tm_recv hK hP (hF 0 (by decide)) (ci := 8) rfl (tm_mkX9 (by decide) _)) rfl hl.1 (lv_room (Nat.le_of_ble_eq_true rfl)) dX9_mothers_63 ⟨Nat.zero_le _, Nat.zero_le _⟩) hS (fun H locs hP hS => ?_)
      refine lv_if_eq (tgt := 81) hx hb dX9_mothers_66 (by decide) (fun c16 => ?_) (fun c16 => ?_)
      · rw [if_pos c16] at h
        refine lv_iinc (v := v6 + 1) (lv' := [(6, .int (v6 + 1)), (0, .ref (g.2.2 + 0)), (1, .int w1), (2, .int w2), (3, .int w3), (4, .int w4), (5, .int v5)]) hx hb dX9_mothers_81 hl (k := 6) rfl rfl (by decide) rfl (fun ls hl => ?_)
        refine lv_goto (tgt := 50) hx hb dX9_mothers_84 (by decide) ?_
        exact ih v5 (v6 + 1) r14.2 h _ _ _ hP hS (lv_sub hl [1, 2, 3, 4, 5, 6, 0] rfl)
      · rw [if_neg c16] at h
        refine lv_iload hx hb dX9_mothers_69 (lv_at hl 5 rfl) ?_
        refine lv_iload_n hx hb dX9_mothers_71 rfl (lv_at hl 2 rfl) ?_
        refine lv_iload hx hb dX9_mothers_72 (lv_at hl 6 rfl) ?_
        refine lv_iload_n hx hb dX9_mothers_74 rfl (lv_at hl 3 rfl) ?_
        obtain ⟨r17, e18, h⟩ := tm_bd_some h
        refine tm_backI (r0 := r17) (M0 := r14.2) (fun _ q => q) (tm_callS (As := [.int w2, .int v6, .int w3]) (rest := [.int v5]) ⟨hx, hb, hml, hown, hts⟩ hK hG hP hS (c_X9_oddsOfVisits l g A L hD hF r14.2 w2 v6 w3 r17 e18) (va_cwS 3 hts gX9_mothers_X9_oddsOfVisits rfl rfl rfl (by decide +kernel) ⟨Nat.le_of_ble_eq_true rfl, Nat.le_of_ble_eq_true rfl⟩) rfl hl.1 (lv_room (Nat.le_of_ble_eq_true rfl)) dX9_mothers_75 ⟨Nat.zero_le _, Nat.zero_le _⟩) hS (fun H locs hP hS => ?_)
        refine lv_iadd hx hb dX9_mothers_78 ?_
        refine tm_nam h (fun x19 h => ?_)
        refine lv_istore (lv' := [(5, .int x19), (0, .ref (g.2.2 + 0)), (1, .int w1), (2, .int w2), (3, .int w3), (4, .int w4), (6, .int v6)]) hx hb dX9_mothers_79 hl (by decide) rfl (fun ls hl => ?_)
        refine lv_iinc (v := v6 + 1) (lv' := [(6, .int (v6 + 1)), (5, .int x19), (0, .ref (g.2.2 + 0)), (1, .int w1), (2, .int w2), (3, .int w3), (4, .int w4)]) hx hb dX9_mothers_81 hl (k := 6) rfl rfl (by decide) rfl (fun ls hl => ?_)
        refine lv_goto (tgt := 50) hx hb dX9_mothers_84 (by decide) ?_
        exact ih x19 (v6 + 1) r14.2 h _ _ _ hP hS (lv_sub hl [2, 3, 4, 5, 6, 1, 0] rfl)
set_option maxHeartbeats 4000000 in
set_option maxRecDepth 100000 in
theorem w_X9_mothers_L93 {p : Program} {l : Launch} {e : Env} {s : State} {m : MethodId} {args : Array Value} {below : List Frame} {meth : Method} {c : Code} {g : tm_G} {A : Nat → Prop} {L : List Nat} (C0 : tm_C p m c cX9_mothers 8 s args wsX9_mothers RX9 meth (some .int) g A L tm_all) (M : tm_M) (w1 : Int32) (w2 : Int32) (w3 : Int32) (w4 : Int32) (w5 : Int32) (k : Int32 → Int32 → Option (Int32 × tm_M)) (R0 : Int32 × tm_M) (hk : ∀ (v6 : Int32) (v7 : Int32), k v6 v7 = some R0 → ∀ (H : Heap) (locs : List Loc) (ls : Array Slot), va_P g.1 vwCl (tm_ws g L M) H → va_S A s.heap H locs → lv_has ls 8 [(0, .ref (g.2.2 + 0)), (1, .int w1), (2, .int w2), (3, .int w3), (4, .int w4), (5, .int w5), (6, .int v6), (7, .int v7)] → W p l e { frames := 5, cells := 0, slots := 0, locals := 112 } s m args below meth c H locs 0 0 (MQ below (tm_QI g A L R0) args s 0 0 A) (F0 m 112 ls [])) : ∀ (n : Nat) (v6 : Int32) (v7 : Int32), f_X9_mothers_L93 k M w1 w2 w3 w4 w5 n v6 v7 = some R0 → ∀ (H : Heap) (locs : List Loc) (ls : Array Slot), va_P g.1 vwCl (tm_ws g L M) H → va_S A s.heap H locs → lv_has ls 8 [(0, .ref (g.2.2 + 0)), (1, .int w1), (2, .int w2), (3, .int w3), (4, .int w4), (5, .int w5), (6, .int v6), (7, .int v7)] → W p l e { frames := 5, cells := 0, slots := 0, locals := 112 } s m args below meth c H locs 0 0 (MQ below (tm_QI g A L R0) args s 0 0 A) (F0 m 93 ls []) := by
  obtain ⟨⟨hx, hb, hml, hown, hts⟩, hr, hlk, hK, hD, hG, hF⟩ := id C0
  intro n
  induction n with
  | zero =>
    intro v6 v7 h
    simp [f_X9_mothers_L93] at h
  | succ n ih =>
    intro v6 v7 h H locs ls hP hS hl
    rw [f_X9_mothers_L93] at h
    refine lv_iload hx hb dX9_mothers_93 (lv_at hl 7 rfl) ?_
    refine lv_iload_n hx hb dX9_mothers_95 rfl (lv_at hl 2 rfl) ?_
    refine lv_icmp_ge (tgt := 112) hx hb dX9_mothers_96 (by decide) (fun c23 => ?_) (fun c23 => ?_)
    · rw [if_pos c23] at h
      exact hk v6 v7 h _ _ _ hP hS (lv_sub hl [0, 1, 2, 3, 4, 5, 6, 7] rfl)
    · rw [if_neg c23] at h
      refine lv_iload hx hb dX9_mothers_99 (lv_at hl 6 rfl) ?_
      refine lv_bipush (v := 10) hx hb dX9_mothers_101 (by decide) ?_
      refine lv_imul hx hb dX9_mothers_103 ?_
      refine tm_nam h (fun x24 h => ?_)
      refine lv_istore (lv' := [(6, .int x24), (0, .ref (g.2.2 + 0)), (1, .int w1), (2, .int w2), (3, .int w3), (4, .int w4), (5, .int w5), (7, .int v7)]) hx hb dX9_mothers_104 hl (by decide) rfl (fun ls hl => ?_)
      refine lv_iinc (v := v7 + 1) (lv' := [(7, .int (v7 + 1)), (6, .int x24), (0, .ref (g.2.2 + 0)), (1, .int w1), (2, .int w2), (3, .int w3), (4, .int w4), (5, .int w5)]) hx hb dX9_mothers_106 hl (k := 7) rfl rfl (by decide) rfl (fun ls hl => ?_)
      refine lv_goto (tgt := 93) hx hb dX9_mothers_109 (by decide) ?_
      exact ih x24 (v7 + 1) h _ _ _ hP hS (lv_sub hl [2, 3, 4, 5, 6, 7, 1, 0] rfl)
set_option maxHeartbeats 4000000 in
set_option maxRecDepth 100000 in
theorem c_X9_mothers (l : Launch) (g : tm_G) (A : Nat → Prop) (L : List Nat) (hD : ∀ M, va_D A (tm_ws g L M)) (hF : ∀ o, tm_all o → o ∈ L) (M : tm_M) (p1 : Int32) (p2 : Int32) (p3 : Int32) (p4 : Int32) (R0 : Int32 × tm_M) (h : f_X9_mothers M p1 p2 p3 p4 = some R0) : Met l yX9_mothers wsX9_mothers { frames := 5, cells := 0, slots := 0, locals := 112 } (tm_PC g A L M [.ref (g.2.2 + 0), .int p1, .int p2, .int p3, .int p4]) (tm_QI g A L R0) 0 0 A := by
  refine tm_start (cc := cX9_mothers) (nL := 8) (ret := (some .int)) (F := tm_all) (plainFor_of_name (by decide)) rfl (Nat.le_of_ble_eq_true rfl) hD hF (fun p e s m args below meth c ls C0 hP hS hl => ?_)
  have hl : lv_has ls 8 [(0, .ref (g.2.2 + 0)), (1, .int p1), (2, .int p2), (3, .int p3), (4, .int p4)] := hl
  have C0 : tm_C p m c cX9_mothers 8 s args wsX9_mothers RX9 meth (some .int) g A L tm_all := C0
  obtain ⟨⟨hx, hb, hml, hown, hts⟩, hr, hlk, hK, hD, hG, hF⟩ := id C0
  unfold f_X9_mothers at h
  refine lv_aload_n hx hb dX9_mothers_0 rfl (lv_at hl 0 rfl) ?_
  refine lv_iload_n hx hb dX9_mothers_1 rfl (lv_at hl 1 rfl) ?_
  obtain ⟨r1, e2, h⟩ := tm_bd_some h
  refine tm_backI (r0 := r1) (M0 := M) (fun _ q => q) (tm_callV (As := [.int p1]) (rest := []) ⟨hx, hb, hml, hown, hts⟩ hK hG hP hS (c_X9_unknown l g A L hD hF M p1 r1 e2) (cwV 1 hts gX9_mothers_X9_unknown rfl rfl rfl (by decide +kernel) ⟨Nat.le_of_ble_eq_true rfl, Nat.le_of_ble_eq_true rfl⟩) (tm_recv hK hP (hF 0 (by decide)) (ci := 8) rfl (tm_mkX9 (by decide) _)) rfl hl.1 (lv_room (Nat.le_of_ble_eq_true rfl)) dX9_mothers_2 ⟨Nat.zero_le _, Nat.zero_le _⟩) hS (fun H locs hP hS => ?_)
  refine lv_if_eq (tgt := 11) hx hb dX9_mothers_5 (by decide) (fun c3 => ?_) (fun c3 => ?_)
  · rw [if_pos c3] at h
    refine lv_iload_n hx hb dX9_mothers_11 rfl (lv_at hl 2 rfl) ?_
    refine lv_iconst (v := 0) hx hb dX9_mothers_12 (by decide) ?_
    refine lv_bipush (v := 6) hx hb dX9_mothers_13 (by decide) ?_
    obtain ⟨r4, e5, h⟩ := tm_bd_some h
    refine tm_backI (r0 := r4) (M0 := M) (fun _ q => q) (tm_callS (As := [.int p2, .int 0, .int 6]) (rest := []) ⟨hx, hb, hml, hown, hts⟩ hK hG hP hS (c_X9_outside l g A L hD hF M p2 0 6 r4 e5) (va_cwS 3 hts gX9_mothers_X9_outside rfl rfl rfl (by decide +kernel) ⟨Nat.le_of_ble_eq_true rfl, Nat.le_of_ble_eq_true rfl⟩) rfl hl.1 (lv_room (Nat.le_of_ble_eq_true rfl)) dX9_mothers_15 ⟨Nat.zero_le _, Nat.zero_le _⟩) hS (fun H locs hP hS => ?_)
    refine lv_if_ne (tgt := 41) hx hb dX9_mothers_18 (by decide) (fun c6 => ?_) (fun c6 => ?_)
    · rw [if_neg c6] at h
      refine lv_bipush (v := (-3)) hx hb dX9_mothers_41 (by decide) ?_
      exact tm_iret C0 (Option.some.inj h) hP hS dX9_mothers_43
    · rw [if_pos c6] at h
      refine lv_iload_n hx hb dX9_mothers_21 rfl (lv_at hl 3 rfl) ?_
      refine lv_iconst (v := 0) hx hb dX9_mothers_22 (by decide) ?_
      refine lv_bipush (v := 10) hx hb dX9_mothers_23 (by decide) ?_
      obtain ⟨r7, e8, h⟩ := tm_bd_some h
      refine tm_backI (r0 := r7) (M0 := M) (fun _ q => q) (tm_callS (As := [.int p3, .int 0, .int 10]) (rest := []) ⟨hx, hb, hml, hown, hts⟩ hK hG hP hS (c_X9_outside l g A L hD hF M p3 0 10 r7 e8) (va_cwS 3 hts gX9_mothers_X9_outside rfl rfl rfl (by decide +kernel) ⟨Nat.le_of_ble_eq_true rfl, Nat.le_of_ble_eq_true rfl⟩) rfl hl.1 (lv_room (Nat.le_of_ble_eq_true rfl)) dX9_mothers_25 ⟨Nat.zero_le _, Nat.zero_le _⟩) hS (fun H locs hP hS => ?_)
      refine lv_if_ne (tgt := 41) hx hb dX9_mothers_28 (by decide) (fun c9 => ?_) (fun c9 => ?_)
      · rw [if_neg c9] at h
        refine lv_bipush (v := (-3)) hx hb dX9_mothers_41 (by decide) ?_
        exact tm_iret C0 (Option.some.inj h) hP hS dX9_mothers_43
      · rw [if_pos c9] at h
        refine lv_iload hx hb dX9_mothers_31 (lv_at hl 4 rfl) ?_
        refine lv_iconst (v := 0) hx hb dX9_mothers_33 (by decide) ?_
        refine lv_iconst (v := 1) hx hb dX9_mothers_34 (by decide) ?_
        obtain ⟨r10, e11, h⟩ := tm_bd_some h
        refine tm_backI (r0 := r10) (M0 := M) (fun _ q => q) (tm_callS (As := [.int p4, .int 0, .int 1]) (rest := []) ⟨hx, hb, hml, hown, hts⟩ hK hG hP hS (c_X9_outside l g A L hD hF M p4 0 1 r10 e11) (va_cwS 3 hts gX9_mothers_X9_outside rfl rfl rfl (by decide +kernel) ⟨Nat.le_of_ble_eq_true rfl, Nat.le_of_ble_eq_true rfl⟩) rfl hl.1 (lv_room (Nat.le_of_ble_eq_true rfl)) dX9_mothers_35 ⟨Nat.zero_le _, Nat.zero_le _⟩) hS (fun H locs hP hS => ?_)
        refine lv_if_eq (tgt := 44) hx hb dX9_mothers_38 (by decide) (fun c12 => ?_) (fun c12 => ?_)
        · rw [if_pos c12] at h
          refine lv_iconst (v := 0) hx hb dX9_mothers_44 (by decide) ?_
          refine lv_istore (lv' := [(5, .int 0), (0, .ref (g.2.2 + 0)), (1, .int p1), (2, .int p2), (3, .int p3), (4, .int p4)]) hx hb dX9_mothers_45 hl (by decide) rfl (fun ls hl => ?_)
          refine lv_iconst (v := 0) hx hb dX9_mothers_47 (by decide) ?_
          refine lv_istore (lv' := [(6, .int 0), (5, .int 0), (0, .ref (g.2.2 + 0)), (1, .int p1), (2, .int p2), (3, .int p3), (4, .int p4)]) hx hb dX9_mothers_48 hl (by decide) rfl (fun ls hl => ?_)
          refine w_X9_mothers_L50 C0 p1 p2 p3 p4 _ R0 (fun v20 v21 M22 h H locs ls hP hS hl => ?_) 1000 0 0 M h _ _ _ hP hS (lv_sub hl [2, 3, 4, 5, 6, 1, 0] rfl)
          refine lv_iconst (v := 1) hx hb dX9_mothers_87 (by decide) ?_
          refine lv_istore (lv' := [(6, .int 1), (0, .ref (g.2.2 + 0)), (1, .int p1), (2, .int p2), (3, .int p3), (4, .int p4), (5, .int v20)]) hx hb dX9_mothers_88 hl (by decide) rfl (fun ls hl => ?_)
          refine lv_iconst (v := 0) hx hb dX9_mothers_90 (by decide) ?_
          refine lv_istore (lv' := [(7, .int 0), (6, .int 1), (0, .ref (g.2.2 + 0)), (1, .int p1), (2, .int p2), (3, .int p3), (4, .int p4), (5, .int v20)]) hx hb dX9_mothers_91 hl (by decide) rfl (fun ls hl => ?_)
          refine w_X9_mothers_L93 C0 M22 p1 p2 p3 p4 v20 _ R0 (fun v25 v26 h H locs ls hP hS hl => ?_) 1000 1 0 h _ _ _ hP hS (lv_sub hl [2, 3, 4, 5, 6, 7, 1, 0] rfl)
          refine lv_iload hx hb dX9_mothers_112 (lv_at hl 5 rfl) ?_
          refine lv_iload hx hb dX9_mothers_114 (lv_at hl 6 rfl) ?_
          obtain ⟨r27, e28, h⟩ := tm_bd_some h
          refine tm_backI (r0 := r27) (M0 := M22) (fun _ q => q) (tm_callS (As := [.int v20, .int v25]) (rest := []) ⟨hx, hb, hml, hown, hts⟩ hK hG hP hS (c_X9_commonDivisor l g A L hD hF M22 v20 v25 r27 e28) (va_cwS 2 hts gX9_mothers_X9_commonDivisor rfl rfl rfl (by decide +kernel) ⟨Nat.le_of_ble_eq_true rfl, Nat.le_of_ble_eq_true rfl⟩) rfl hl.1 (lv_room (Nat.le_of_ble_eq_true rfl)) dX9_mothers_116 ⟨Nat.zero_le _, Nat.zero_le _⟩) hS (fun H locs hP hS => ?_)
          refine lv_istore (lv' := [(7, .int r27), (0, .ref (g.2.2 + 0)), (1, .int p1), (2, .int p2), (3, .int p3), (4, .int p4), (5, .int v20), (6, .int v25)]) hx hb dX9_mothers_119 hl (by decide) rfl (fun ls hl => ?_)
          refine lv_iload hx hb dX9_mothers_121 (lv_at hl 5 rfl) ?_
          refine lv_if_ne (tgt := 131) hx hb dX9_mothers_123 (by decide) (fun c29 => ?_) (fun c29 => ?_)
          · rw [if_neg c29] at h
            refine lv_iload hx hb dX9_mothers_131 (lv_at hl 7 rfl) ?_
            refine lv_iload hx hb dX9_mothers_133 (lv_at hl 0 rfl) ?_
            obtain ⟨g30, h⟩ := tm_gd_some h
            refine lv_idiv hx hb dX9_mothers_135 g30 ?_
            exact tm_iret C0 (Option.some.inj h) hP hS dX9_mothers_136
          · rw [if_pos c29] at h
            refine lv_iload hx hb dX9_mothers_126 (lv_at hl 6 rfl) ?_
            refine lv_goto (tgt := 133) hx hb dX9_mothers_128 (by decide) ?_
            refine lv_iload hx hb dX9_mothers_133 (lv_at hl 0 rfl) ?_
            obtain ⟨g31, h⟩ := tm_gd_some h
            refine lv_idiv hx hb dX9_mothers_135 g31 ?_
            exact tm_iret C0 (Option.some.inj h) hP hS dX9_mothers_136
        · rw [if_neg c12] at h
          refine lv_bipush (v := (-3)) hx hb dX9_mothers_41 (by decide) ?_
          exact tm_iret C0 (Option.some.inj h) hP hS dX9_mothers_43
  · rw [if_neg c3] at h
    refine lv_bipush (v := (-2)) hx hb dX9_mothers_8 (by decide) ?_
    exact tm_iret C0 (Option.some.inj h) hP hS dX9_mothers_10
/-! X9_count -/
theorem nX9_count_X9 : ∀ w ∈ wsX90, w ∈ wsX9_count := by decide +kernel
theorem kX9_count_0 : Cond.fieldLink RX9 43 "QuarrelDesk" "now" "LQuarrelDesk$Year;" ∈ wsX9_count := by decide +kernel
theorem nX9_count_X8 : ∀ w ∈ wsX80, w ∈ wsX9_count := by decide +kernel
theorem kX9_count_1 : Cond.fieldLink RX9 89 "QuarrelDesk$Year" "couples" "I" ∈ wsX9_count := by decide +kernel
theorem kX9_count_2 : Cond.fieldLink RX9 133 "QuarrelDesk$Year" "day" "I" ∈ wsX9_count := by decide +kernel
theorem kX9_count_3 : Cond.fieldLink RX9 224 "QuarrelDesk" "seenMany" "I" ∈ wsX9_count := by decide +kernel
theorem kX9_count_4 : Cond.fieldLink RX9 175 "QuarrelDesk" "undos" "I" ∈ wsX9_count := by decide +kernel
theorem kX9_count_5 : Cond.fieldLink RX9 13 "QuarrelDesk" "text" "LQuarrelDesk$Text;" ∈ wsX9_count := by decide +kernel
theorem nX9_count_X7 : ∀ w ∈ wsX70, w ∈ wsX9_count := by decide +kernel
theorem kX9_count_6 : Cond.fieldLink RX9 85 "QuarrelDesk$Text" "length" "I" ∈ wsX9_count := by decide +kernel
def f_X9_count (M : tm_M) (p1 : Int32) : Option (Int32 × tm_M) :=
  if p1 = 0 then
    some (M 20 2, M)
  else
    if p1 = 1 then
      some (M 20 3, M)
    else
      if p1 = 2 then
        (f_X9_balance M 0).bind fun r4 =>
        some (r4.1, r4.2)
      else
        if p1 = 3 then
          (f_X8_breaks M 20).bind fun r7 =>
          some (r7, M)
        else
          if p1 = 4 then
            (f_X8_tiffs M 20).bind fun r10 =>
            some (r10, M)
          else
            if p1 = 5 then
              (f_X8_voids M 20).bind fun r13 =>
              some (r13, M)
            else
              if p1 = 6 then
                some (M 0 12, M)
              else
                if p1 = 7 then
                  some (M 0 8, M)
                else
                  if p1 = 8 then
                    some (M 2 4, M)
                  else
                    some ((-3), M)
set_option maxHeartbeats 4000000 in
set_option maxRecDepth 100000 in
theorem c_X9_count (l : Launch) (g : tm_G) (A : Nat → Prop) (L : List Nat) (hD : ∀ M, va_D A (tm_ws g L M)) (hF : ∀ o, tm_all o → o ∈ L) (M : tm_M) (p1 : Int32) (R0 : Int32 × tm_M) (h : f_X9_count M p1 = some R0) : Met l yX9_count wsX9_count { frames := 7, cells := 0, slots := 0, locals := 155 } (tm_PC g A L M [.ref (g.2.2 + 0), .int p1]) (tm_QI g A L R0) 0 0 A := by
  refine tm_start (cc := cX9_count) (nL := 2) (ret := (some .int)) (F := tm_all) (plainFor_of_name (by decide)) rfl (Nat.le_of_ble_eq_true rfl) hD hF (fun p e s m args below meth c ls C0 hP hS hl => ?_)
  have hl : lv_has ls 2 [(0, .ref (g.2.2 + 0)), (1, .int p1)] := hl
  have C0 : tm_C p m c cX9_count 2 s args wsX9_count RX9 meth (some .int) g A L tm_all := C0
  obtain ⟨⟨hx, hb, hml, hown, hts⟩, hr, hlk, hK, hD, hG, hF⟩ := id C0
  unfold f_X9_count at h
  refine lv_iload_n hx hb dX9_count_0 rfl (lv_at hl 1 rfl) ?_
  by_cases c1 : p1 = 0
  · rw [if_pos c1] at h
    refine lv_tableIn (tgt := 52) (off := 51) hx hb dX9_count_1 (by rw [c1]; decide) (by rw [c1]; decide) (by rw [c1]; decide) (by decide) ?_
    refine lv_aload_n hx hb dX9_count_52 rfl (lv_at hl 0 rfl) ?_
    refine tm_get (C := RX9) (T := TX9) (N := 15) (v := .ref (g.2.2 + 20)) hx hb hts nX9_count_X9 hown hK hP (hF 0 (by decide)) (tm_mkX9 (by decide) _) rfl 3 (by decide) (hts _ kX9_count_0) rfl dX9_count_53 ?_
    refine tm_get (C := RX8) (T := TX8) (N := 4) (v := .int (M 20 2)) hx hb hts nX9_count_X8 hown hK hP (hF 20 (by decide)) (tm_mkX8 (by decide) _) rfl 2 (by decide) (hts _ kX9_count_1) rfl dX9_count_56 ?_
    exact tm_iret C0 (Option.some.inj h) hP hS dX9_count_59
  · rw [if_neg c1] at h
    by_cases c2 : p1 = 1
    · rw [if_pos c2] at h
      refine lv_tableIn (tgt := 60) (off := 59) hx hb dX9_count_1 (by rw [c2]; decide) (by rw [c2]; decide) (by rw [c2]; decide) (by decide) ?_
      refine lv_aload_n hx hb dX9_count_60 rfl (lv_at hl 0 rfl) ?_
      refine tm_get (C := RX9) (T := TX9) (N := 15) (v := .ref (g.2.2 + 20)) hx hb hts nX9_count_X9 hown hK hP (hF 0 (by decide)) (tm_mkX9 (by decide) _) rfl 3 (by decide) (hts _ kX9_count_0) rfl dX9_count_61 ?_
      refine tm_get (C := RX8) (T := TX8) (N := 4) (v := .int (M 20 3)) hx hb hts nX9_count_X8 hown hK hP (hF 20 (by decide)) (tm_mkX8 (by decide) _) rfl 3 (by decide) (hts _ kX9_count_2) rfl dX9_count_64 ?_
      exact tm_iret C0 (Option.some.inj h) hP hS dX9_count_67
    · rw [if_neg c2] at h
      by_cases c3 : p1 = 2
      · rw [if_pos c3] at h
        refine lv_tableIn (tgt := 68) (off := 67) hx hb dX9_count_1 (by rw [c3]; decide) (by rw [c3]; decide) (by rw [c3]; decide) (by decide) ?_
        refine lv_aload_n hx hb dX9_count_68 rfl (lv_at hl 0 rfl) ?_
        refine lv_iconst (v := 0) hx hb dX9_count_69 (by decide) ?_
        obtain ⟨r4, e5, h⟩ := tm_bd_some h
        refine tm_backI (r0 := r4.1) (M0 := r4.2) (fun _ q => q) (tm_callV (As := [.int 0]) (rest := []) ⟨hx, hb, hml, hown, hts⟩ hK hG hP hS (c_X9_balance l g A L hD hF M 0 r4 e5) (cwV 1 hts gX9_count_X9_balance rfl rfl rfl (by decide +kernel) ⟨Nat.le_of_ble_eq_true rfl, Nat.le_of_ble_eq_true rfl⟩) (tm_recv hK hP (hF 0 (by decide)) (ci := 8) rfl (tm_mkX9 (by decide) _)) rfl hl.1 (lv_room (Nat.le_of_ble_eq_true rfl)) dX9_count_70 ⟨Nat.zero_le _, Nat.zero_le _⟩) hS (fun H locs hP hS => ?_)
        exact tm_iret C0 (Option.some.inj h) hP hS dX9_count_73
      · rw [if_neg c3] at h
        by_cases c6 : p1 = 3
        · rw [if_pos c6] at h
          refine lv_tableIn (tgt := 74) (off := 73) hx hb dX9_count_1 (by rw [c6]; decide) (by rw [c6]; decide) (by rw [c6]; decide) (by decide) ?_
          refine lv_aload_n hx hb dX9_count_74 rfl (lv_at hl 0 rfl) ?_
          refine tm_get (C := RX9) (T := TX9) (N := 15) (v := .ref (g.2.2 + 20)) hx hb hts nX9_count_X9 hown hK hP (hF 0 (by decide)) (tm_mkX9 (by decide) _) rfl 3 (by decide) (hts _ kX9_count_0) rfl dX9_count_75 ?_
          obtain ⟨r7, e8, h⟩ := tm_bd_some h
          refine tm_backI (r0 := r7) (M0 := M) (fun _ q => q) (tm_callV (As := []) (rest := []) ⟨hx, hb, hml, hown, hts⟩ hK hG hP hS (c_X8_breaks l g A L hD hF M 20 r7 e8) (cwV 0 hts gX9_count_X8_breaks rfl rfl rfl (by decide +kernel) ⟨Nat.le_of_ble_eq_true rfl, Nat.le_of_ble_eq_true rfl⟩) (tm_recv hK hP (hF 20 (by decide)) (ci := 7) rfl (tm_mkX8 (by decide) _)) rfl hl.1 (lv_room (Nat.le_of_ble_eq_true rfl)) dX9_count_78 ⟨Nat.zero_le _, Nat.zero_le _⟩) hS (fun H locs hP hS => ?_)
          exact tm_iret C0 (Option.some.inj h) hP hS dX9_count_81
        · rw [if_neg c6] at h
          by_cases c9 : p1 = 4
          · rw [if_pos c9] at h
            refine lv_tableIn (tgt := 82) (off := 81) hx hb dX9_count_1 (by rw [c9]; decide) (by rw [c9]; decide) (by rw [c9]; decide) (by decide) ?_
            refine lv_aload_n hx hb dX9_count_82 rfl (lv_at hl 0 rfl) ?_
            refine tm_get (C := RX9) (T := TX9) (N := 15) (v := .ref (g.2.2 + 20)) hx hb hts nX9_count_X9 hown hK hP (hF 0 (by decide)) (tm_mkX9 (by decide) _) rfl 3 (by decide) (hts _ kX9_count_0) rfl dX9_count_83 ?_
            obtain ⟨r10, e11, h⟩ := tm_bd_some h
            refine tm_backI (r0 := r10) (M0 := M) (fun _ q => q) (tm_callV (As := []) (rest := []) ⟨hx, hb, hml, hown, hts⟩ hK hG hP hS (c_X8_tiffs l g A L hD hF M 20 r10 e11) (cwV 0 hts gX9_count_X8_tiffs rfl rfl rfl (by decide +kernel) ⟨Nat.le_of_ble_eq_true rfl, Nat.le_of_ble_eq_true rfl⟩) (tm_recv hK hP (hF 20 (by decide)) (ci := 7) rfl (tm_mkX8 (by decide) _)) rfl hl.1 (lv_room (Nat.le_of_ble_eq_true rfl)) dX9_count_86 ⟨Nat.zero_le _, Nat.zero_le _⟩) hS (fun H locs hP hS => ?_)
            exact tm_iret C0 (Option.some.inj h) hP hS dX9_count_89
          · rw [if_neg c9] at h
            by_cases c12 : p1 = 5
            · rw [if_pos c12] at h
              refine lv_tableIn (tgt := 90) (off := 89) hx hb dX9_count_1 (by rw [c12]; decide) (by rw [c12]; decide) (by rw [c12]; decide) (by decide) ?_
              refine lv_aload_n hx hb dX9_count_90 rfl (lv_at hl 0 rfl) ?_
              refine tm_get (C := RX9) (T := TX9) (N := 15) (v := .ref (g.2.2 + 20)) hx hb hts nX9_count_X9 hown hK hP (hF 0 (by decide)) (tm_mkX9 (by decide) _) rfl 3 (by decide) (hts _ kX9_count_0) rfl dX9_count_91 ?_
              obtain ⟨r13, e14, h⟩ := tm_bd_some h
              refine tm_backI (r0 := r13) (M0 := M) (fun _ q => q) (tm_callV (As := []) (rest := []) ⟨hx, hb, hml, hown, hts⟩ hK hG hP hS (c_X8_voids l g A L hD hF M 20 r13 e14) (cwV 0 hts gX9_count_X8_voids rfl rfl rfl (by decide +kernel) ⟨Nat.le_of_ble_eq_true rfl, Nat.le_of_ble_eq_true rfl⟩) (tm_recv hK hP (hF 20 (by decide)) (ci := 7) rfl (tm_mkX8 (by decide) _)) rfl hl.1 (lv_room (Nat.le_of_ble_eq_true rfl)) dX9_count_94 ⟨Nat.zero_le _, Nat.zero_le _⟩) hS (fun H locs hP hS => ?_)
              exact tm_iret C0 (Option.some.inj h) hP hS dX9_count_97
            · rw [if_neg c12] at h
              by_cases c15 : p1 = 6
              · rw [if_pos c15] at h
                refine lv_tableIn (tgt := 98) (off := 97) hx hb dX9_count_1 (by rw [c15]; decide) (by rw [c15]; decide) (by rw [c15]; decide) (by decide) ?_
                refine lv_aload_n hx hb dX9_count_98 rfl (lv_at hl 0 rfl) ?_
                refine tm_get (C := RX9) (T := TX9) (N := 15) (v := .int (M 0 12)) hx hb hts nX9_count_X9 hown hK hP (hF 0 (by decide)) (tm_mkX9 (by decide) _) rfl 12 (by decide) (hts _ kX9_count_3) rfl dX9_count_99 ?_
                exact tm_iret C0 (Option.some.inj h) hP hS dX9_count_102
              · rw [if_neg c15] at h
                by_cases c16 : p1 = 7
                · rw [if_pos c16] at h
                  refine lv_tableIn (tgt := 103) (off := 102) hx hb dX9_count_1 (by rw [c16]; decide) (by rw [c16]; decide) (by rw [c16]; decide) (by decide) ?_
                  refine lv_aload_n hx hb dX9_count_103 rfl (lv_at hl 0 rfl) ?_
                  refine tm_get (C := RX9) (T := TX9) (N := 15) (v := .int (M 0 8)) hx hb hts nX9_count_X9 hown hK hP (hF 0 (by decide)) (tm_mkX9 (by decide) _) rfl 8 (by decide) (hts _ kX9_count_4) rfl dX9_count_104 ?_
                  exact tm_iret C0 (Option.some.inj h) hP hS dX9_count_107
                · rw [if_neg c16] at h
                  by_cases c17 : p1 = 8
                  · rw [if_pos c17] at h
                    refine lv_tableIn (tgt := 108) (off := 107) hx hb dX9_count_1 (by rw [c17]; decide) (by rw [c17]; decide) (by rw [c17]; decide) (by decide) ?_
                    refine lv_aload_n hx hb dX9_count_108 rfl (lv_at hl 0 rfl) ?_
                    refine tm_get (C := RX9) (T := TX9) (N := 15) (v := .ref (g.2.2 + 2)) hx hb hts nX9_count_X9 hown hK hP (hF 0 (by decide)) (tm_mkX9 (by decide) _) rfl 0 (by decide) (hts _ kX9_count_5) rfl dX9_count_109 ?_
                    refine tm_get (C := RX7) (T := TX7) (N := 8) (v := .int (M 2 4)) hx hb hts nX9_count_X7 hown hK hP (hF 2 (by decide)) (tm_mkX7 (by decide) _) rfl 4 (by decide) (hts _ kX9_count_6) rfl dX9_count_112 ?_
                    exact tm_iret C0 (Option.some.inj h) hP hS dX9_count_115
                  · rw [if_neg c17] at h
                    have c1t := lv_neT (a := 0) c1 (by decide)
                    have c2t := lv_neT (a := 1) c2 (by decide)
                    have c3t := lv_neT (a := 2) c3 (by decide)
                    have c6t := lv_neT (a := 3) c6 (by decide)
                    have c9t := lv_neT (a := 4) c9 (by decide)
                    have c12t := lv_neT (a := 5) c12 (by decide)
                    have c15t := lv_neT (a := 6) c15 (by decide)
                    have c16t := lv_neT (a := 7) c16 (by decide)
                    have c17t := lv_neT (a := 8) c17 (by decide)
                    refine lv_tableOut (tgt := 116) hx hb dX9_count_1 (by omega) (by decide) ?_
                    refine lv_bipush (v := (-3)) hx hb dX9_count_116 (by decide) ?_
                    exact tm_iret C0 (Option.some.inj h) hP hS dX9_count_118
