/-! X9_tell -/
theorem nX9_tell_X9 : ∀ w ∈ wsX90, w ∈ wsX9_tell := by decide +kernel
theorem kX9_tell_0 : Cond.fieldLink RX9 39 "QuarrelDesk" "told" "LQuarrelDesk$Year;" ∈ wsX9_tell := by decide +kernel
theorem nX9_tell_X8 : ∀ w ∈ wsX80, w ∈ wsX9_tell := by decide +kernel
theorem kX9_tell_1 : Cond.fieldLink RX9 140 "QuarrelDesk$Year" "terms" "LQuarrelDesk$Terms;" ∈ wsX9_tell := by decide +kernel
theorem kX9_tell_2 : Cond.fieldLink RX9 30 "QuarrelDesk" "natures" "[LQuarrelDesk$Couple;" ∈ wsX9_tell := by decide +kernel
def f_X9_tell (M : tm_M) (p1 : Int32) (p2 : Int32) (p3 : Int32) : Option tm_M :=
  if p1 = 0 then
    (f_X8_clear M 11).bind fun M18 =>
    some M18
  else
    (f_X7_isCouple p1).bind fun r2 =>
    if r2 = 0 then
      (f_X6_set M 12 (p1 - 5) p2).bind fun M7 =>
      some M7
    else
      (some (p1 - 1)).bind fun x8 =>
      if x8 < 0 then
        some M
      else
        if 4 ≤ x8 then
          some M
        else
          (tm_rdr 7 4 x8).bind fun x11 =>
          (f_X8_join M 11 x11 p2 p3).bind fun M15 =>
          some M15
set_option maxHeartbeats 4000000 in
set_option maxRecDepth 100000 in
theorem c_X9_tell (l : Launch) (g : tm_G) (A : Nat → Prop) (L : List Nat) (hD : ∀ M, va_D A (tm_ws g L M)) (hF : ∀ o, tm_all o → o ∈ L) (M : tm_M) (p1 : Int32) (p2 : Int32) (p3 : Int32) (M0 : tm_M) (h : f_X9_tell M p1 p2 p3 = some M0) : Met l yX9_tell wsX9_tell { frames := 2, cells := 0, slots := 0, locals := 46 } (tm_PC g A L M [.ref (g.2.2 + 0), .int p1, .int p2, .int p3]) (tm_QV g A L M0) 0 0 A := by
  refine tm_start (cc := cX9_tell) (nL := 5) (ret := none) (F := tm_all) (plainFor_of_name (by decide)) rfl (Nat.le_of_ble_eq_true rfl) hD hF (fun p e s m args below meth c ls C0 hP hS hl => ?_)
  have hl : lv_has ls 5 [(0, .ref (g.2.2 + 0)), (1, .int p1), (2, .int p2), (3, .int p3)] := hl
  have C0 : tm_C p m c cX9_tell 5 s args wsX9_tell RX9 meth none g A L tm_all := C0
  obtain ⟨⟨hx, hb, hml, hown, hts⟩, hr, hlk, hK, hD, hG, hF⟩ := id C0
  unfold f_X9_tell at h
  refine lv_iload_n hx hb dX9_tell_0 rfl (lv_at hl 1 rfl) ?_
  refine lv_if_ne (tgt := 14) hx hb dX9_tell_1 (by decide) (fun c1 => ?_) (fun c1 => ?_)
  · rw [if_neg c1] at h
    refine lv_iload_n hx hb dX9_tell_14 rfl (lv_at hl 1 rfl) ?_
    obtain ⟨r2, e3, h⟩ := tm_bd_some h
    refine tm_backI (r0 := r2) (M0 := M) (fun _ q => q) (tm_callS (As := [.int p1]) (rest := []) ⟨hx, hb, hml, hown, hts⟩ hK hG hP hS (c_X7_isCouple l g A L hD hF M p1 r2 e3) (va_cwS 1 hts gX9_tell_X7_isCouple rfl rfl rfl (by decide +kernel) ⟨Nat.le_of_ble_eq_true rfl, Nat.le_of_ble_eq_true rfl⟩) rfl hl.1 (lv_room (Nat.le_of_ble_eq_true rfl)) dX9_tell_15 ⟨Nat.zero_le _, Nat.zero_le _⟩) hS (fun H locs hP hS => ?_)
    refine lv_if_eq (tgt := 60) hx hb dX9_tell_18 (by decide) (fun c4 => ?_) (fun c4 => ?_)
    · rw [if_pos c4] at h
      refine lv_aload_n hx hb dX9_tell_60 rfl (lv_at hl 0 rfl) ?_
      refine tm_get (C := RX9) (T := TX9) (N := 15) (v := .ref (g.2.2 + 11)) hx hb hts nX9_tell_X9 hown hK hP (hF 0 (by decide)) (tm_mkX9 (by decide) _) rfl 2 (by decide) (hts _ kX9_tell_0) rfl dX9_tell_61 ?_
      refine tm_get (C := RX8) (T := TX8) (N := 4) (v := .ref (g.2.2 + 12)) hx hb hts nX9_tell_X8 hown hK hP (hF 11 (by decide)) (tm_mkX8 (by decide) _) rfl 0 (by decide) (hts _ kX9_tell_1) rfl dX9_tell_64 ?_
      refine lv_iload_n hx hb dX9_tell_67 rfl (lv_at hl 1 rfl) ?_
      refine lv_iconst (v := 5) hx hb dX9_tell_68 (by decide) ?_
      refine lv_isub hx hb dX9_tell_69 ?_
      refine lv_iload_n hx hb dX9_tell_70 rfl (lv_at hl 2 rfl) ?_
      obtain ⟨M7, e6, h⟩ := tm_bd_some h
      refine tm_backV (M0 := M7) (fun _ q => q) (tm_callV (As := [.int (p1 - 5), .int p2]) (rest := []) ⟨hx, hb, hml, hown, hts⟩ hK hG hP hS (c_X6_set l g A L hD hF M 12 (p1 - 5) p2 M7 e6) (cwV 2 hts gX9_tell_X6_set rfl rfl rfl (by decide +kernel) ⟨Nat.le_of_ble_eq_true rfl, Nat.le_of_ble_eq_true rfl⟩) (tm_recv hK hP (hF 12 (by decide)) (ci := 5) rfl (tm_mkX6 (by decide) _)) rfl hl.1 (lv_room (Nat.le_of_ble_eq_true rfl)) dX9_tell_71 ⟨Nat.zero_le _, Nat.zero_le _⟩) hS (fun H locs hP hS => ?_)
      exact tm_vret C0 (Option.some.inj h) hP hS dX9_tell_74
    · rw [if_neg c4] at h
      refine lv_iload_n hx hb dX9_tell_21 rfl (lv_at hl 1 rfl) ?_
      refine lv_iconst (v := 1) hx hb dX9_tell_22 (by decide) ?_
      refine lv_isub hx hb dX9_tell_23 ?_
      refine tm_nam h (fun x8 h => ?_)
      refine lv_istore (lv' := [(4, .int x8), (0, .ref (g.2.2 + 0)), (1, .int p1), (2, .int p2), (3, .int p3)]) hx hb dX9_tell_24 hl (by decide) rfl (fun ls hl => ?_)
      refine lv_iload hx hb dX9_tell_26 (lv_at hl 0 rfl) ?_
      refine lv_if_lt (tgt := 57) hx hb dX9_tell_28 (by decide) (fun c9 => ?_) (fun c9 => ?_)
      · rw [if_pos c9] at h
        refine lv_goto (tgt := 74) hx hb dX9_tell_57 (by decide) ?_
        exact tm_vret C0 (Option.some.inj h) hP hS dX9_tell_74
      · rw [if_neg c9] at h
        refine lv_iload hx hb dX9_tell_31 (lv_at hl 0 rfl) ?_
        refine lv_aload_n hx hb dX9_tell_33 rfl (lv_at hl 1 rfl) ?_
        refine tm_get (C := RX9) (T := TX9) (N := 15) (v := .ref (g.2.2 + 7)) hx hb hts nX9_tell_X9 hown hK hP (hF 0 (by decide)) (tm_mkX9 (by decide) _) rfl 1 (by decide) (hts _ kX9_tell_2) rfl dX9_tell_34 ?_
        refine tm_alenC hx hb hK hP (hF 7 (by decide)) (tm_mkC (by decide)) dX9_tell_37 ?_
        refine lv_icmp_ge (tgt := 57) hx hb dX9_tell_38 (by decide) (fun c10 => ?_) (fun c10 => ?_)
        · rw [if_pos c10] at h
          refine lv_goto (tgt := 74) hx hb dX9_tell_57 (by decide) ?_
          exact tm_vret C0 (Option.some.inj h) hP hS dX9_tell_74
        · rw [if_neg c10] at h
          refine lv_aload_n hx hb dX9_tell_41 rfl (lv_at hl 1 rfl) ?_
          refine tm_get (C := RX9) (T := TX9) (N := 15) (v := .ref (g.2.2 + 11)) hx hb hts nX9_tell_X9 hown hK hP (hF 0 (by decide)) (tm_mkX9 (by decide) _) rfl 2 (by decide) (hts _ kX9_tell_0) rfl dX9_tell_42 ?_
          refine lv_aload_n hx hb dX9_tell_45 rfl (lv_at hl 1 rfl) ?_
          refine tm_get (C := RX9) (T := TX9) (N := 15) (v := .ref (g.2.2 + 7)) hx hb hts nX9_tell_X9 hown hK hP (hF 0 (by decide)) (tm_mkX9 (by decide) _) rfl 1 (by decide) (hts _ kX9_tell_2) rfl dX9_tell_46 ?_
          refine lv_iload hx hb dX9_tell_49 (lv_at hl 0 rfl) ?_
          obtain ⟨x11, e12, h⟩ := tm_bd_some h
          refine tm_aald hx hb hK hP 2 (hF 7 (by decide)) (tm_mkC (by decide)) rfl e12 dX9_tell_51 ?_
          refine lv_iload_n hx hb dX9_tell_52 rfl (lv_at hl 3 rfl) ?_
          refine lv_iload_n hx hb dX9_tell_53 rfl (lv_at hl 4 rfl) ?_
          obtain ⟨M15, e14, h⟩ := tm_bd_some h
          refine tm_backV (M0 := M15) (fun _ q => q) (tm_callV (As := [.ref (g.2.2 + x11), .int p2, .int p3]) (rest := []) ⟨hx, hb, hml, hown, hts⟩ hK hG hP hS (c_X8_join l g A L hD hF M 11 x11 p2 p3 M15 e14) (cwV 3 hts gX9_tell_X8_join rfl rfl rfl (by decide +kernel) ⟨Nat.le_of_ble_eq_true rfl, Nat.le_of_ble_eq_true rfl⟩) (tm_recv hK hP (hF 11 (by decide)) (ci := 7) rfl (tm_mkX8 (by decide) _)) rfl hl.1 (lv_room (Nat.le_of_ble_eq_true rfl)) dX9_tell_54 ⟨Nat.zero_le _, Nat.zero_le _⟩) hS (fun H locs hP hS => ?_)
          refine lv_goto (tgt := 74) hx hb dX9_tell_57 (by decide) ?_
          exact tm_vret C0 (Option.some.inj h) hP hS dX9_tell_74
  · rw [if_pos c1] at h
    refine lv_aload_n hx hb dX9_tell_4 rfl (lv_at hl 0 rfl) ?_
    refine tm_get (C := RX9) (T := TX9) (N := 15) (v := .ref (g.2.2 + 11)) hx hb hts nX9_tell_X9 hown hK hP (hF 0 (by decide)) (tm_mkX9 (by decide) _) rfl 2 (by decide) (hts _ kX9_tell_0) rfl dX9_tell_5 ?_
    obtain ⟨M18, e17, h⟩ := tm_bd_some h
    refine tm_backV (M0 := M18) (fun _ q => q) (tm_callV (As := []) (rest := []) ⟨hx, hb, hml, hown, hts⟩ hK hG hP hS (c_X8_clear l g A L hD hF M 11 M18 e17) (cwV 0 hts gX9_tell_X8_clear rfl rfl rfl (by decide +kernel) ⟨Nat.le_of_ble_eq_true rfl, Nat.le_of_ble_eq_true rfl⟩) (tm_recv hK hP (hF 11 (by decide)) (ci := 7) rfl (tm_mkX8 (by decide) _)) rfl hl.1 (lv_room (Nat.le_of_ble_eq_true rfl)) dX9_tell_8 ⟨Nat.zero_le _, Nat.zero_le _⟩) hS (fun H locs hP hS => ?_)
    refine lv_goto (tgt := 74) hx hb dX9_tell_11 (by decide) ?_
    exact tm_vret C0 (Option.some.inj h) hP hS dX9_tell_74
/-! X9_begin -/
theorem nX9_begin_X9 : ∀ w ∈ wsX90, w ∈ wsX9_begin := by decide +kernel
theorem kX9_begin_0 : Cond.fieldLink RX9 43 "QuarrelDesk" "now" "LQuarrelDesk$Year;" ∈ wsX9_begin := by decide +kernel
theorem kX9_begin_1 : Cond.fieldLink RX9 39 "QuarrelDesk" "told" "LQuarrelDesk$Year;" ∈ wsX9_begin := by decide +kernel
theorem kX9_begin_2 : Cond.fieldLink RX9 50 "QuarrelDesk" "isKept" "[Z" ∈ wsX9_begin := by decide +kernel
theorem kX9_begin_3 : Cond.fieldLink RX9 175 "QuarrelDesk" "undos" "I" ∈ wsX9_begin := by decide +kernel
theorem kX9_begin_4 : Cond.fieldLink RX9 224 "QuarrelDesk" "seenMany" "I" ∈ wsX9_begin := by decide +kernel
def f_X9_begin_L13 (k : Int32 → tm_M → Option tm_M) : Nat → Int32 → tm_M → Option tm_M
  | 0, _, _ => none
  | n + 1, v1, M =>
    if 2 ≤ v1 then
      k v1 M
    else
      (tm_wr M 48 2 v1 0).bind fun M5 =>
      f_X9_begin_L13 k  n (v1 + 1) M5
def f_X9_begin (M : tm_M) : Option tm_M :=
  (f_X8_copy M 20 11).bind fun M3 =>
  f_X9_begin_L13 (fun v7 M8 =>
    (some (tm_st M8 0 8 0)).bind fun M9 =>
    (some (tm_st M9 0 12 0)).bind fun M11 =>
    some M11)  1000 0 M3
set_option maxHeartbeats 4000000 in
set_option maxRecDepth 100000 in
theorem w_X9_begin_L13 {p : Program} {l : Launch} {e : Env} {s : State} {m : MethodId} {args : Array Value} {below : List Frame} {meth : Method} {c : Code} {g : tm_G} {A : Nat → Prop} {L : List Nat} (C0 : tm_C p m c cX9_begin 2 s args wsX9_begin RX9 meth none g A L tm_all) (k : Int32 → tm_M → Option tm_M) (M0 : tm_M) (hk : ∀ (v1 : Int32) (M : tm_M), k v1 M = some M0 → ∀ (H : Heap) (locs : List Loc) (ls : Array Slot), va_P g.1 vwCl (tm_ws g L M) H → va_S A s.heap H locs → lv_has ls 2 [(0, .ref (g.2.2 + 0)), (1, .int v1)] → W p l e { frames := 2, cells := 0, slots := 0, locals := 43 } s m args below meth c H locs 0 0 (MQ below (tm_QV g A L M0) args s 0 0 A) (F0 m 31 ls [])) : ∀ (n : Nat) (v1 : Int32) (M : tm_M), f_X9_begin_L13 k  n v1 M = some M0 → ∀ (H : Heap) (locs : List Loc) (ls : Array Slot), va_P g.1 vwCl (tm_ws g L M) H → va_S A s.heap H locs → lv_has ls 2 [(0, .ref (g.2.2 + 0)), (1, .int v1)] → W p l e { frames := 2, cells := 0, slots := 0, locals := 43 } s m args below meth c H locs 0 0 (MQ below (tm_QV g A L M0) args s 0 0 A) (F0 m 13 ls []) := by
  obtain ⟨⟨hx, hb, hml, hown, hts⟩, hr, hlk, hK, hD, hG, hF⟩ := id C0
  intro n
  induction n with
  | zero =>
    intro v1 M h
    simp [f_X9_begin_L13] at h
  | succ n ih =>
    intro v1 M h H locs ls hP hS hl
    rw [f_X9_begin_L13] at h
    refine lv_iload_n hx hb dX9_begin_13 rfl (lv_at hl 1 rfl) ?_
    refine lv_iconst (v := 2) hx hb dX9_begin_14 (by decide) ?_
    refine lv_icmp_ge (tgt := 31) hx hb dX9_begin_15 (by decide) (fun c4 => ?_) (fun c4 => ?_)
    · rw [if_pos c4] at h
      exact hk v1 M h _ _ _ hP hS (lv_sub hl [0, 1] rfl)
    · rw [if_neg c4] at h
      refine lv_aload_n hx hb dX9_begin_18 rfl (lv_at hl 0 rfl) ?_
      refine tm_get (C := RX9) (T := TX9) (N := 15) (v := .ref (g.2.2 + 48)) hx hb hts nX9_begin_X9 hown hK hP (hF 0 (by decide)) (tm_mkX9 (by decide) _) rfl 5 (by decide) (hts _ kX9_begin_2) rfl dX9_begin_19 ?_
      refine lv_iload_n hx hb dX9_begin_22 rfl (lv_at hl 1 rfl) ?_
      refine lv_iconst (v := 0) hx hb dX9_begin_23 (by decide) ?_
      obtain ⟨M5, e6, h⟩ := tm_bd_some h
      refine tm_zast hx hb hK hP hD hS (hF 48 (by decide)) (tm_mkZ (n := 2) (by decide) (by decide)) (by unfold tm_isB; decide) e6 dX9_begin_24 (fun H locs hP hS => ?_)
      refine lv_iinc (v := v1 + 1) (lv' := [(1, .int (v1 + 1)), (0, .ref (g.2.2 + 0))]) hx hb dX9_begin_25 hl (k := 1) rfl rfl (by decide) rfl (fun ls hl => ?_)
      refine lv_goto (tgt := 13) hx hb dX9_begin_28 (by decide) ?_
      exact ih (v1 + 1) M5 h _ _ _ hP hS (lv_sub hl [1, 0] rfl)
set_option maxHeartbeats 4000000 in
set_option maxRecDepth 100000 in
theorem c_X9_begin (l : Launch) (g : tm_G) (A : Nat → Prop) (L : List Nat) (hD : ∀ M, va_D A (tm_ws g L M)) (hF : ∀ o, tm_all o → o ∈ L) (M : tm_M) (M0 : tm_M) (h : f_X9_begin M = some M0) : Met l yX9_begin wsX9_begin { frames := 2, cells := 0, slots := 0, locals := 43 } (tm_PC g A L M [.ref (g.2.2 + 0)]) (tm_QV g A L M0) 0 0 A := by
  refine tm_start (cc := cX9_begin) (nL := 2) (ret := none) (F := tm_all) (plainFor_of_name (by decide)) rfl (Nat.le_of_ble_eq_true rfl) hD hF (fun p e s m args below meth c ls C0 hP hS hl => ?_)
  have hl : lv_has ls 2 [(0, .ref (g.2.2 + 0))] := hl
  have C0 : tm_C p m c cX9_begin 2 s args wsX9_begin RX9 meth none g A L tm_all := C0
  obtain ⟨⟨hx, hb, hml, hown, hts⟩, hr, hlk, hK, hD, hG, hF⟩ := id C0
  unfold f_X9_begin at h
  refine lv_aload_n hx hb dX9_begin_0 rfl (lv_at hl 0 rfl) ?_
  refine tm_get (C := RX9) (T := TX9) (N := 15) (v := .ref (g.2.2 + 20)) hx hb hts nX9_begin_X9 hown hK hP (hF 0 (by decide)) (tm_mkX9 (by decide) _) rfl 3 (by decide) (hts _ kX9_begin_0) rfl dX9_begin_1 ?_
  refine lv_aload_n hx hb dX9_begin_4 rfl (lv_at hl 0 rfl) ?_
  refine tm_get (C := RX9) (T := TX9) (N := 15) (v := .ref (g.2.2 + 11)) hx hb hts nX9_begin_X9 hown hK hP (hF 0 (by decide)) (tm_mkX9 (by decide) _) rfl 2 (by decide) (hts _ kX9_begin_1) rfl dX9_begin_5 ?_
  obtain ⟨M3, e2, h⟩ := tm_bd_some h
  refine tm_backV (M0 := M3) (fun _ q => q) (tm_callV (As := [.ref (g.2.2 + 11)]) (rest := []) ⟨hx, hb, hml, hown, hts⟩ hK hG hP hS (c_X8_copy l g A L hD hF M 20 11 M3 e2) (cwV 1 hts gX9_begin_X8_copy rfl rfl rfl (by decide +kernel) ⟨Nat.le_of_ble_eq_true rfl, Nat.le_of_ble_eq_true rfl⟩) (tm_recv hK hP (hF 20 (by decide)) (ci := 7) rfl (tm_mkX8 (by decide) _)) rfl hl.1 (lv_room (Nat.le_of_ble_eq_true rfl)) dX9_begin_8 ⟨Nat.zero_le _, Nat.zero_le _⟩) hS (fun H locs hP hS => ?_)
  refine lv_iconst (v := 0) hx hb dX9_begin_11 (by decide) ?_
  refine lv_istore_n (lv' := [(1, .int 0), (0, .ref (g.2.2 + 0))]) hx hb dX9_begin_12 rfl hl (by decide) rfl (fun ls hl => ?_)
  refine w_X9_begin_L13 C0  _ M0 (fun v7 M8 h H locs ls hP hS hl => ?_) 1000 0 M3 h _ _ _ hP hS (lv_sub hl [1, 0] rfl)
  refine lv_aload_n hx hb dX9_begin_31 rfl (lv_at hl 0 rfl) ?_
  refine lv_iconst (v := 0) hx hb dX9_begin_32 (by decide) ?_
  obtain ⟨M9, e10, h⟩ := tm_bd_some h
  refine tm_put (C := RX9) (T := TX9) (N := 15) (ty := .int) (x := 0) hx hb hts nX9_begin_X9 tyX9 tyX9_ok nmX9 hown hK hP hD hS (hF 0 (by decide)) (tm_mkX9 (by decide)) rfl 8 (by decide) (hts _ kX9_begin_3) rfl (by decide +kernel) rfl rfl (Nat.le_of_ble_eq_true rfl) rfl (Option.some.inj e10) dX9_begin_33 (fun H locs hP hS => ?_)
  refine lv_aload_n hx hb dX9_begin_36 rfl (lv_at hl 0 rfl) ?_
  refine lv_iconst (v := 0) hx hb dX9_begin_37 (by decide) ?_
  obtain ⟨M11, e12, h⟩ := tm_bd_some h
  refine tm_put (C := RX9) (T := TX9) (N := 15) (ty := .int) (x := 0) hx hb hts nX9_begin_X9 tyX9 tyX9_ok nmX9 hown hK hP hD hS (hF 0 (by decide)) (tm_mkX9 (by decide)) rfl 12 (by decide) (hts _ kX9_begin_4) rfl (by decide +kernel) rfl rfl (Nat.le_of_ble_eq_true rfl) rfl (Option.some.inj e12) dX9_begin_38 (fun H locs hP hS => ?_)
  exact tm_vret C0 (Option.some.inj h) hP hS dX9_begin_41
/-! X9_desk -/
theorem nX9_desk_X9 : ∀ w ∈ wsX90, w ∈ wsX9_desk := by decide +kernel
theorem kX9_desk_0 : Cond.fieldLink RX9 13 "QuarrelDesk" "text" "LQuarrelDesk$Text;" ∈ wsX9_desk := by decide +kernel
theorem kX9_desk_1 : Cond.fieldLink RX9 39 "QuarrelDesk" "told" "LQuarrelDesk$Year;" ∈ wsX9_desk := by decide +kernel
theorem nX9_desk_X8 : ∀ w ∈ wsX80, w ∈ wsX9_desk := by decide +kernel
theorem kX9_desk_2 : Cond.fieldLink RX9 89 "QuarrelDesk$Year" "couples" "I" ∈ wsX9_desk := by decide +kernel
theorem nX9_desk_X7 : ∀ w ∈ wsX70, w ∈ wsX9_desk := by decide +kernel
theorem kX9_desk_3 : Cond.fieldLink RX9 96 "QuarrelDesk$Text" "clauses" "I" ∈ wsX9_desk := by decide +kernel
theorem kX9_desk_4 : Cond.fieldLink RX9 99 "QuarrelDesk$Text" "words" "[I" ∈ wsX9_desk := by decide +kernel
theorem kX9_desk_5 : Cond.fieldLink RX9 102 "QuarrelDesk$Text" "firsts" "[I" ∈ wsX9_desk := by decide +kernel
theorem kX9_desk_6 : Cond.fieldLink RX9 105 "QuarrelDesk$Text" "seconds" "[I" ∈ wsX9_desk := by decide +kernel
theorem kX9_desk_7 : Cond.fieldLink RX9 85 "QuarrelDesk$Text" "length" "I" ∈ wsX9_desk := by decide +kernel
def f_X9_desk_L31 (k : Int32 → tm_M → Option (Int32 × tm_M)) (w1 : Int32) : Nat → Int32 → tm_M → Option (Int32 × tm_M)
  | 0, _, _ => none
  | n + 1, v2, M =>
    if w1 ≤ v2 then
      k v2 M
    else
      if 14 ≤ v2 then
        k v2 M
      else
        (tm_rd M 4 14 v2).bind fun x7 =>
        (tm_rd M 5 14 v2).bind fun x9 =>
        (tm_rd M 6 14 v2).bind fun x11 =>
        (f_X9_tell M x7 x9 x11).bind fun M15 =>
        f_X9_desk_L31 k w1 n (v2 + 1) M15
def f_X9_desk (M : tm_M) : Option (Int32 × tm_M) :=
  (f_X7_read M (M 11 2)).bind fun r1 =>
  if r1.1 = (-1) then
    (some (r1.2 2 3)).bind fun x4 =>
    f_X9_desk_L31 (fun v16 M17 =>
      (some (tm_st M17 2 4 0)).bind fun M18 =>
      (f_X9_begin M18).bind fun M22 =>
      some (x4, M22)) x4 1000 0 r1.2
  else
    some ((-4), r1.2)
set_option maxHeartbeats 4000000 in
set_option maxRecDepth 100000 in
theorem w_X9_desk_L31 {p : Program} {l : Launch} {e : Env} {s : State} {m : MethodId} {args : Array Value} {below : List Frame} {meth : Method} {c : Code} {g : tm_G} {A : Nat → Prop} {L : List Nat} (C0 : tm_C p m c cX9_desk 3 s args wsX9_desk RX9 meth (some .int) g A L tm_all) (w1 : Int32) (k : Int32 → tm_M → Option (Int32 × tm_M)) (R0 : Int32 × tm_M) (hk : ∀ (v2 : Int32) (M : tm_M), k v2 M = some R0 → ∀ (H : Heap) (locs : List Loc) (ls : Array Slot), va_P g.1 vwCl (tm_ws g L M) H → va_S A s.heap H locs → lv_has ls 3 [(0, .ref (g.2.2 + 0)), (1, .int w1), (2, .int v2)] → W p l e { frames := 7, cells := 0, slots := 0, locals := 155 } s m args below meth c H locs 0 0 (MQ below (tm_QI g A L R0) args s 0 0 A) (F0 m 79 ls [])) : ∀ (n : Nat) (v2 : Int32) (M : tm_M), f_X9_desk_L31 k w1 n v2 M = some R0 → ∀ (H : Heap) (locs : List Loc) (ls : Array Slot), va_P g.1 vwCl (tm_ws g L M) H → va_S A s.heap H locs → lv_has ls 3 [(0, .ref (g.2.2 + 0)), (1, .int w1), (2, .int v2)] → W p l e { frames := 7, cells := 0, slots := 0, locals := 155 } s m args below meth c H locs 0 0 (MQ below (tm_QI g A L R0) args s 0 0 A) (F0 m 31 ls []) := by
  obtain ⟨⟨hx, hb, hml, hown, hts⟩, hr, hlk, hK, hD, hG, hF⟩ := id C0
  intro n
  induction n with
  | zero =>
    intro v2 M h
    simp [f_X9_desk_L31] at h
  | succ n ih =>
    intro v2 M h H locs ls hP hS hl
    rw [f_X9_desk_L31] at h
    refine lv_iload_n hx hb dX9_desk_31 rfl (lv_at hl 2 rfl) ?_
    refine lv_iload_n hx hb dX9_desk_32 rfl (lv_at hl 1 rfl) ?_
    refine lv_icmp_ge (tgt := 79) hx hb dX9_desk_33 (by decide) (fun c5 => ?_) (fun c5 => ?_)
    · rw [if_pos c5] at h
      exact hk v2 M h _ _ _ hP hS (lv_sub hl [0, 1, 2] rfl)
    · rw [if_neg c5] at h
      refine lv_iload_n hx hb dX9_desk_36 rfl (lv_at hl 2 rfl) ?_
      refine lv_bipush (v := 14) hx hb dX9_desk_37 (by decide) ?_
      refine lv_icmp_ge (tgt := 79) hx hb dX9_desk_39 (by decide) (fun c6 => ?_) (fun c6 => ?_)
      · rw [if_pos c6] at h
        exact hk v2 M h _ _ _ hP hS (lv_sub hl [0, 1, 2] rfl)
      · rw [if_neg c6] at h
        refine lv_aload_n hx hb dX9_desk_42 rfl (lv_at hl 0 rfl) ?_
        refine lv_aload_n hx hb dX9_desk_43 rfl (lv_at hl 0 rfl) ?_
        refine tm_get (C := RX9) (T := TX9) (N := 15) (v := .ref (g.2.2 + 2)) hx hb hts nX9_desk_X9 hown hK hP (hF 0 (by decide)) (tm_mkX9 (by decide) _) rfl 0 (by decide) (hts _ kX9_desk_0) rfl dX9_desk_44 ?_
        refine tm_get (C := RX7) (T := TX7) (N := 8) (v := .ref (g.2.2 + 4)) hx hb hts nX9_desk_X7 hown hK hP (hF 2 (by decide)) (tm_mkX7 (by decide) _) rfl 0 (by decide) (hts _ kX9_desk_4) rfl dX9_desk_47 ?_
        refine lv_iload_n hx hb dX9_desk_50 rfl (lv_at hl 2 rfl) ?_
        obtain ⟨x7, e8, h⟩ := tm_bd_some h
        refine tm_iald hx hb hK hP (hF 4 (by decide)) (tm_mkI (n := 14) (by decide) (by decide)) e8 dX9_desk_51 ?_
        refine lv_aload_n hx hb dX9_desk_52 rfl (lv_at hl 0 rfl) ?_
        refine tm_get (C := RX9) (T := TX9) (N := 15) (v := .ref (g.2.2 + 2)) hx hb hts nX9_desk_X9 hown hK hP (hF 0 (by decide)) (tm_mkX9 (by decide) _) rfl 0 (by decide) (hts _ kX9_desk_0) rfl dX9_desk_53 ?_
        refine tm_get (C := RX7) (T := TX7) (N := 8) (v := .ref (g.2.2 + 5)) hx hb hts nX9_desk_X7 hown hK hP (hF 2 (by decide)) (tm_mkX7 (by decide) _) rfl 1 (by decide) (hts _ kX9_desk_5) rfl dX9_desk_56 ?_
        refine lv_iload_n hx hb dX9_desk_59 rfl (lv_at hl 2 rfl) ?_
        obtain ⟨x9, e10, h⟩ := tm_bd_some h
        refine tm_iald hx hb hK hP (hF 5 (by decide)) (tm_mkI (n := 14) (by decide) (by decide)) e10 dX9_desk_60 ?_
        refine lv_aload_n hx hb dX9_desk_61 rfl (lv_at hl 0 rfl) ?_
        refine tm_get (C := RX9) (T := TX9) (N := 15) (v := .ref (g.2.2 + 2)) hx hb hts nX9_desk_X9 hown hK hP (hF 0 (by decide)) (tm_mkX9 (by decide) _) rfl 0 (by decide) (hts _ kX9_desk_0) rfl dX9_desk_62 ?_
        refine tm_get (C := RX7) (T := TX7) (N := 8) (v := .ref (g.2.2 + 6)) hx hb hts nX9_desk_X7 hown hK hP (hF 2 (by decide)) (tm_mkX7 (by decide) _) rfl 2 (by decide) (hts _ kX9_desk_6) rfl dX9_desk_65 ?_
        refine lv_iload_n hx hb dX9_desk_68 rfl (lv_at hl 2 rfl) ?_
        obtain ⟨x11, e12, h⟩ := tm_bd_some h
        refine tm_iald hx hb hK hP (hF 6 (by decide)) (tm_mkI (n := 14) (by decide) (by decide)) e12 dX9_desk_69 ?_
        obtain ⟨M15, e14, h⟩ := tm_bd_some h
        refine tm_backV (M0 := M15) (fun _ q => q) (tm_callV (As := [.int x7, .int x9, .int x11]) (rest := []) ⟨hx, hb, hml, hown, hts⟩ hK hG hP hS (c_X9_tell l g A L hD hF M x7 x9 x11 M15 e14) (cwV 3 hts gX9_desk_X9_tell rfl rfl rfl (by decide +kernel) ⟨Nat.le_of_ble_eq_true rfl, Nat.le_of_ble_eq_true rfl⟩) (tm_recv hK hP (hF 0 (by decide)) (ci := 8) rfl (tm_mkX9 (by decide) _)) rfl hl.1 (lv_room (Nat.le_of_ble_eq_true rfl)) dX9_desk_70 ⟨Nat.zero_le _, Nat.zero_le _⟩) hS (fun H locs hP hS => ?_)
        refine lv_iinc (v := v2 + 1) (lv' := [(2, .int (v2 + 1)), (0, .ref (g.2.2 + 0)), (1, .int w1)]) hx hb dX9_desk_73 hl (k := 2) rfl rfl (by decide) rfl (fun ls hl => ?_)
        refine lv_goto (tgt := 31) hx hb dX9_desk_76 (by decide) ?_
        exact ih (v2 + 1) M15 h _ _ _ hP hS (lv_sub hl [1, 2, 0] rfl)
set_option maxHeartbeats 4000000 in
set_option maxRecDepth 100000 in
theorem c_X9_desk (l : Launch) (g : tm_G) (A : Nat → Prop) (L : List Nat) (hD : ∀ M, va_D A (tm_ws g L M)) (hF : ∀ o, tm_all o → o ∈ L) (M : tm_M) (R0 : Int32 × tm_M) (h : f_X9_desk M = some R0) : Met l yX9_desk wsX9_desk { frames := 7, cells := 0, slots := 0, locals := 155 } (tm_PC g A L M [.ref (g.2.2 + 0)]) (tm_QI g A L R0) 0 0 A := by
  refine tm_start (cc := cX9_desk) (nL := 3) (ret := (some .int)) (F := tm_all) (plainFor_of_name (by decide)) rfl (Nat.le_of_ble_eq_true rfl) hD hF (fun p e s m args below meth c ls C0 hP hS hl => ?_)
  have hl : lv_has ls 3 [(0, .ref (g.2.2 + 0))] := hl
  have C0 : tm_C p m c cX9_desk 3 s args wsX9_desk RX9 meth (some .int) g A L tm_all := C0
  obtain ⟨⟨hx, hb, hml, hown, hts⟩, hr, hlk, hK, hD, hG, hF⟩ := id C0
  unfold f_X9_desk at h
  refine lv_aload_n hx hb dX9_desk_0 rfl (lv_at hl 0 rfl) ?_
  refine tm_get (C := RX9) (T := TX9) (N := 15) (v := .ref (g.2.2 + 2)) hx hb hts nX9_desk_X9 hown hK hP (hF 0 (by decide)) (tm_mkX9 (by decide) _) rfl 0 (by decide) (hts _ kX9_desk_0) rfl dX9_desk_1 ?_
  refine lv_aload_n hx hb dX9_desk_4 rfl (lv_at hl 0 rfl) ?_
  refine tm_get (C := RX9) (T := TX9) (N := 15) (v := .ref (g.2.2 + 11)) hx hb hts nX9_desk_X9 hown hK hP (hF 0 (by decide)) (tm_mkX9 (by decide) _) rfl 2 (by decide) (hts _ kX9_desk_1) rfl dX9_desk_5 ?_
  refine tm_get (C := RX8) (T := TX8) (N := 4) (v := .int (M 11 2)) hx hb hts nX9_desk_X8 hown hK hP (hF 11 (by decide)) (tm_mkX8 (by decide) _) rfl 2 (by decide) (hts _ kX9_desk_2) rfl dX9_desk_8 ?_
  obtain ⟨r1, e2, h⟩ := tm_bd_some h
  refine tm_backI (r0 := r1.1) (M0 := r1.2) (fun _ q => q) (tm_callV (As := [.int (M 11 2)]) (rest := []) ⟨hx, hb, hml, hown, hts⟩ hK hG hP hS (c_X7_read l g A L hD hF M (M 11 2) r1 e2) (cwV 1 hts gX9_desk_X7_read rfl rfl rfl (by decide +kernel) ⟨Nat.le_of_ble_eq_true rfl, Nat.le_of_ble_eq_true rfl⟩) (tm_recv hK hP (hF 2 (by decide)) (ci := 6) rfl (tm_mkX7 (by decide) _)) rfl hl.1 (lv_room (Nat.le_of_ble_eq_true rfl)) dX9_desk_11 ⟨Nat.zero_le _, Nat.zero_le _⟩) hS (fun H locs hP hS => ?_)
  refine lv_iconst (v := (-1)) hx hb dX9_desk_14 (by decide) ?_
  refine lv_icmp_eq (tgt := 21) hx hb dX9_desk_15 (by decide) (fun c3 => ?_) (fun c3 => ?_)
  · rw [if_pos c3] at h
    refine lv_aload_n hx hb dX9_desk_21 rfl (lv_at hl 0 rfl) ?_
    refine tm_get (C := RX9) (T := TX9) (N := 15) (v := .ref (g.2.2 + 2)) hx hb hts nX9_desk_X9 hown hK hP (hF 0 (by decide)) (tm_mkX9 (by decide) _) rfl 0 (by decide) (hts _ kX9_desk_0) rfl dX9_desk_22 ?_
    refine tm_get (C := RX7) (T := TX7) (N := 8) (v := .int (r1.2 2 3)) hx hb hts nX9_desk_X7 hown hK hP (hF 2 (by decide)) (tm_mkX7 (by decide) _) rfl 3 (by decide) (hts _ kX9_desk_3) rfl dX9_desk_25 ?_
    refine tm_nam h (fun x4 h => ?_)
    refine lv_istore_n (lv' := [(1, .int x4), (0, .ref (g.2.2 + 0))]) hx hb dX9_desk_28 rfl hl (by decide) rfl (fun ls hl => ?_)
    refine lv_iconst (v := 0) hx hb dX9_desk_29 (by decide) ?_
    refine lv_istore_n (lv' := [(2, .int 0), (1, .int x4), (0, .ref (g.2.2 + 0))]) hx hb dX9_desk_30 rfl hl (by decide) rfl (fun ls hl => ?_)
    refine w_X9_desk_L31 C0 x4 _ R0 (fun v16 M17 h H locs ls hP hS hl => ?_) 1000 0 r1.2 h _ _ _ hP hS (lv_sub hl [2, 1, 0] rfl)
    refine lv_aload_n hx hb dX9_desk_79 rfl (lv_at hl 0 rfl) ?_
    refine tm_get (C := RX9) (T := TX9) (N := 15) (v := .ref (g.2.2 + 2)) hx hb hts nX9_desk_X9 hown hK hP (hF 0 (by decide)) (tm_mkX9 (by decide) _) rfl 0 (by decide) (hts _ kX9_desk_0) rfl dX9_desk_80 ?_
    refine lv_iconst (v := 0) hx hb dX9_desk_83 (by decide) ?_
    obtain ⟨M18, e19, h⟩ := tm_bd_some h
    refine tm_put (C := RX7) (T := TX7) (N := 8) (ty := .int) (x := 0) hx hb hts nX9_desk_X7 tyX7 tyX7_ok nmX7 hown hK hP hD hS (hF 2 (by decide)) (tm_mkX7 (by decide)) rfl 4 (by decide) (hts _ kX9_desk_7) rfl (by decide +kernel) rfl rfl (Nat.le_of_ble_eq_true rfl) rfl (Option.some.inj e19) dX9_desk_84 (fun H locs hP hS => ?_)
    refine lv_aload_n hx hb dX9_desk_87 rfl (lv_at hl 0 rfl) ?_
    obtain ⟨M22, e21, h⟩ := tm_bd_some h
    refine tm_backV (M0 := M22) (fun _ q => q) (tm_callV (As := []) (rest := []) ⟨hx, hb, hml, hown, hts⟩ hK hG hP hS (c_X9_begin l g A L hD hF M18 M22 e21) (cwV 0 hts gX9_desk_X9_begin rfl rfl rfl (by decide +kernel) ⟨Nat.le_of_ble_eq_true rfl, Nat.le_of_ble_eq_true rfl⟩) (tm_recv hK hP (hF 0 (by decide)) (ci := 8) rfl (tm_mkX9 (by decide) _)) rfl hl.1 (lv_room (Nat.le_of_ble_eq_true rfl)) dX9_desk_88 ⟨Nat.zero_le _, Nat.zero_le _⟩) hS (fun H locs hP hS => ?_)
    refine lv_iload_n hx hb dX9_desk_91 rfl (lv_at hl 1 rfl) ?_
    exact tm_iret C0 (Option.some.inj h) hP hS dX9_desk_92
  · rw [if_neg c3] at h
    refine lv_bipush (v := (-4)) hx hb dX9_desk_18 (by decide) ?_
    exact tm_iret C0 (Option.some.inj h) hP hS dX9_desk_20
/-! X9_unknown -/
theorem nX9_unknown_X9 : ∀ w ∈ wsX90, w ∈ wsX9_unknown := by decide +kernel
theorem kX9_unknown_0 : Cond.fieldLink RX9 43 "QuarrelDesk" "now" "LQuarrelDesk$Year;" ∈ wsX9_unknown := by decide +kernel
theorem nX9_unknown_X8 : ∀ w ∈ wsX80, w ∈ wsX9_unknown := by decide +kernel
theorem kX9_unknown_1 : Cond.fieldLink RX9 89 "QuarrelDesk$Year" "couples" "I" ∈ wsX9_unknown := by decide +kernel
def f_X9_unknown (M : tm_M) (p1 : Int32) : Option Int32 :=
  if p1 < 0 then
    some 1
  else
    if (M 20 2) ≤ p1 then
      some 1
    else
      if p1 < 6 then
        some 0
      else
        some 1
set_option maxHeartbeats 4000000 in
set_option maxRecDepth 100000 in
theorem c_X9_unknown (l : Launch) (g : tm_G) (A : Nat → Prop) (L : List Nat) (hD : ∀ M, va_D A (tm_ws g L M)) (hF : ∀ o, tm_all o → o ∈ L) (M : tm_M) (p1 : Int32) (r0 : Int32) (h : f_X9_unknown M p1 = some r0) : Met l yX9_unknown wsX9_unknown { frames := 0, cells := 0, slots := 0, locals := 0 } (tm_PC g A L M [.ref (g.2.2 + 0), .int p1]) (tm_QI g A L (r0, M)) 0 0 A := by
  refine tm_start (cc := cX9_unknown) (nL := 2) (ret := (some .boolean)) (F := tm_all) (plainFor_of_name (by decide)) rfl (Nat.le_of_ble_eq_true rfl) hD hF (fun p e s m args below meth c ls C0 hP hS hl => ?_)
  have hl : lv_has ls 2 [(0, .ref (g.2.2 + 0)), (1, .int p1)] := hl
  have C0 : tm_C p m c cX9_unknown 2 s args wsX9_unknown RX9 meth (some .boolean) g A L tm_all := C0
  obtain ⟨⟨hx, hb, hml, hown, hts⟩, hr, hlk, hK, hD, hG, hF⟩ := id C0
  unfold f_X9_unknown at h
  refine lv_iload_n hx hb dX9_unknown_0 rfl (lv_at hl 1 rfl) ?_
  refine lv_if_lt (tgt := 21) hx hb dX9_unknown_1 (by decide) (fun c1 => ?_) (fun c1 => ?_)
  · rw [if_pos c1] at h
    refine lv_iconst (v := 1) hx hb dX9_unknown_21 (by decide) ?_
    refine lv_goto (tgt := 26) hx hb dX9_unknown_22 (by decide) ?_
    exact tm_zret C0 (by unfold tm_isB; decide) (by rw [Option.some.inj h]) hP hS dX9_unknown_26
  · rw [if_neg c1] at h
    refine lv_iload_n hx hb dX9_unknown_4 rfl (lv_at hl 1 rfl) ?_
    refine lv_aload_n hx hb dX9_unknown_5 rfl (lv_at hl 0 rfl) ?_
    refine tm_get (C := RX9) (T := TX9) (N := 15) (v := .ref (g.2.2 + 20)) hx hb hts nX9_unknown_X9 hown hK hP (hF 0 (by decide)) (tm_mkX9 (by decide) _) rfl 3 (by decide) (hts _ kX9_unknown_0) rfl dX9_unknown_6 ?_
    refine tm_get (C := RX8) (T := TX8) (N := 4) (v := .int (M 20 2)) hx hb hts nX9_unknown_X8 hown hK hP (hF 20 (by decide)) (tm_mkX8 (by decide) _) rfl 2 (by decide) (hts _ kX9_unknown_1) rfl dX9_unknown_9 ?_
    refine lv_icmp_ge (tgt := 21) hx hb dX9_unknown_12 (by decide) (fun c2 => ?_) (fun c2 => ?_)
    · rw [if_pos c2] at h
      refine lv_iconst (v := 1) hx hb dX9_unknown_21 (by decide) ?_
      refine lv_goto (tgt := 26) hx hb dX9_unknown_22 (by decide) ?_
      exact tm_zret C0 (by unfold tm_isB; decide) (by rw [Option.some.inj h]) hP hS dX9_unknown_26
    · rw [if_neg c2] at h
      refine lv_iload_n hx hb dX9_unknown_15 rfl (lv_at hl 1 rfl) ?_
      refine lv_bipush (v := 6) hx hb dX9_unknown_16 (by decide) ?_
      refine lv_icmp_lt (tgt := 25) hx hb dX9_unknown_18 (by decide) (fun c3 => ?_) (fun c3 => ?_)
      · rw [if_pos c3] at h
        refine lv_iconst (v := 0) hx hb dX9_unknown_25 (by decide) ?_
        exact tm_zret C0 (by unfold tm_isB; decide) (by rw [Option.some.inj h]) hP hS dX9_unknown_26
      · rw [if_neg c3] at h
        refine lv_iconst (v := 1) hx hb dX9_unknown_21 (by decide) ?_
        refine lv_goto (tgt := 26) hx hb dX9_unknown_22 (by decide) ?_
        exact tm_zret C0 (by unfold tm_isB; decide) (by rw [Option.some.inj h]) hP hS dX9_unknown_26
/-! X9_couple -/
theorem nX9_couple_X9 : ∀ w ∈ wsX90, w ∈ wsX9_couple := by decide +kernel
theorem kX9_couple_0 : Cond.fieldLink RX9 43 "QuarrelDesk" "now" "LQuarrelDesk$Year;" ∈ wsX9_couple := by decide +kernel
theorem nX9_couple_X8 : ∀ w ∈ wsX80, w ∈ wsX9_couple := by decide +kernel
theorem kX9_couple_1 : Cond.fieldLink RX9 118 "QuarrelDesk$Year" "lives" "[LQuarrelDesk$Life;" ∈ wsX9_couple := by decide +kernel
def f_X9_couple (M : tm_M) (p1 : Int32) (p2 : Int32) : Option Int32 :=
  (f_X9_unknown M p1).bind fun r1 =>
  if r1 = 0 then
    (tm_rdr 22 6 p1).bind fun x4 =>
    tm_gd (tm_shp x4 = 0) <|
    (f_X1_part M x4 p2).bind fun r6 =>
    some r6
  else
    some (-2)
set_option maxHeartbeats 4000000 in
set_option maxRecDepth 100000 in
theorem c_X9_couple (l : Launch) (g : tm_G) (A : Nat → Prop) (L : List Nat) (hD : ∀ M, va_D A (tm_ws g L M)) (hF : ∀ o, tm_all o → o ∈ L) (M : tm_M) (p1 : Int32) (p2 : Int32) (r0 : Int32) (h : f_X9_couple M p1 p2 = some r0) : Met l yX9_couple wsX9_couple { frames := 2, cells := 0, slots := 0, locals := 41 } (tm_PC g A L M [.ref (g.2.2 + 0), .int p1, .int p2]) (tm_QI g A L (r0, M)) 0 0 A := by
  refine tm_start (cc := cX9_couple) (nL := 3) (ret := (some .int)) (F := tm_all) (plainFor_of_name (by decide)) rfl (Nat.le_of_ble_eq_true rfl) hD hF (fun p e s m args below meth c ls C0 hP hS hl => ?_)
  have hl : lv_has ls 3 [(0, .ref (g.2.2 + 0)), (1, .int p1), (2, .int p2)] := hl
  have C0 : tm_C p m c cX9_couple 3 s args wsX9_couple RX9 meth (some .int) g A L tm_all := C0
  obtain ⟨⟨hx, hb, hml, hown, hts⟩, hr, hlk, hK, hD, hG, hF⟩ := id C0
  unfold f_X9_couple at h
  refine lv_aload_n hx hb dX9_couple_0 rfl (lv_at hl 0 rfl) ?_
  refine lv_iload_n hx hb dX9_couple_1 rfl (lv_at hl 1 rfl) ?_
  obtain ⟨r1, e2, h⟩ := tm_bd_some h
  refine tm_backI (r0 := r1) (M0 := M) (fun _ q => q) (tm_callV (As := [.int p1]) (rest := []) ⟨hx, hb, hml, hown, hts⟩ hK hG hP hS (c_X9_unknown l g A L hD hF M p1 r1 e2) (cwV 1 hts gX9_couple_X9_unknown rfl rfl rfl (by decide +kernel) ⟨Nat.le_of_ble_eq_true rfl, Nat.le_of_ble_eq_true rfl⟩) (tm_recv hK hP (hF 0 (by decide)) (ci := 8) rfl (tm_mkX9 (by decide) _)) rfl hl.1 (lv_room (Nat.le_of_ble_eq_true rfl)) dX9_couple_2 ⟨Nat.zero_le _, Nat.zero_le _⟩) hS (fun H locs hP hS => ?_)
  refine lv_if_eq (tgt := 11) hx hb dX9_couple_5 (by decide) (fun c3 => ?_) (fun c3 => ?_)
  · rw [if_pos c3] at h
    refine lv_aload_n hx hb dX9_couple_11 rfl (lv_at hl 0 rfl) ?_
    refine tm_get (C := RX9) (T := TX9) (N := 15) (v := .ref (g.2.2 + 20)) hx hb hts nX9_couple_X9 hown hK hP (hF 0 (by decide)) (tm_mkX9 (by decide) _) rfl 3 (by decide) (hts _ kX9_couple_0) rfl dX9_couple_12 ?_
    refine tm_get (C := RX8) (T := TX8) (N := 4) (v := .ref (g.2.2 + 22)) hx hb hts nX9_couple_X8 hown hK hP (hF 20 (by decide)) (tm_mkX8 (by decide) _) rfl 1 (by decide) (hts _ kX9_couple_1) rfl dX9_couple_15 ?_
    refine lv_iload_n hx hb dX9_couple_18 rfl (lv_at hl 1 rfl) ?_
    obtain ⟨x4, e5, h⟩ := tm_bd_some h
    refine tm_aald hx hb hK hP 3 (hF 22 (by decide)) (tm_mkL (by decide)) rfl e5 dX9_couple_19 ?_
    refine lv_iload_n hx hb dX9_couple_20 rfl (lv_at hl 2 rfl) ?_
    obtain ⟨g8, h⟩ := tm_gd_some h
    obtain ⟨r6, e7, h⟩ := tm_bd_some h
    refine tm_backI (r0 := r6) (M0 := M) (fun _ q => q) (tm_callV (As := [.int p2]) (rest := []) ⟨hx, hb, hml, hown, hts⟩ hK hG hP hS (c_X1_part l g A L hD hF M x4 p2 r6 e7) (cwV 1 hts gX9_couple_X1_part rfl rfl rfl (by decide +kernel) ⟨Nat.le_of_ble_eq_true rfl, Nat.le_of_ble_eq_true rfl⟩) (tm_recv hK hP (hF _ (tm_lt g8)) (ci := 0) rfl (tm_mkX1 g8 _)) rfl hl.1 (lv_room (Nat.le_of_ble_eq_true rfl)) dX9_couple_21 ⟨Nat.zero_le _, Nat.zero_le _⟩) hS (fun H locs hP hS => ?_)
    exact tm_iret C0 (by rw [Option.some.inj h]) hP hS dX9_couple_24
  · rw [if_neg c3] at h
    refine lv_bipush (v := (-2)) hx hb dX9_couple_8 (by decide) ?_
    exact tm_iret C0 (by rw [Option.some.inj h]) hP hS dX9_couple_10
/-! X9_isA -/
theorem kX9_isA_0 : Cond.classLink RX9 7 "QuarrelDesk$Plain" ∈ wsX9_isA := by decide +kernel
theorem kX9_isA_1 : Cond.classLink RX9 21 "QuarrelDesk$Proud" ∈ wsX9_isA := by decide +kernel
theorem kX9_isA_2 : Cond.classLink RX9 24 "QuarrelDesk$Sunday" ∈ wsX9_isA := by decide +kernel
theorem kX9_isA_3 : Cond.classLink RX9 27 "QuarrelDesk$Sulky" ∈ wsX9_isA := by decide +kernel
def f_X9_isA (o0 : Nat) (p1 : Int32) : Option Int32 :=
  if p1 = 0 then
    some 1
  else
    if p1 = 1 then
      if tm_shp o0 = 1 then
        some 1
      else
        if tm_shp o0 = 2 then
          some 1
        else
          if tm_shp o0 = 3 then
            some 0
          else
            if tm_shp o0 = 4 then
              some 1
            else
              none
    else
      if p1 = 2 then
        if tm_shp o0 = 1 then
          some 0
        else
          if tm_shp o0 = 2 then
            some 1
          else
            if tm_shp o0 = 3 then
              some 0
            else
              if tm_shp o0 = 4 then
                some 0
              else
                none
      else
        if p1 = 3 then
          if tm_shp o0 = 1 then
            some 0
          else
            if tm_shp o0 = 2 then
              some 0
            else
              if tm_shp o0 = 3 then
                some 0
              else
                if tm_shp o0 = 4 then
                  some 1
                else
                  none
        else
          if p1 = 4 then
            if tm_shp o0 = 1 then
              some 0
            else
              if tm_shp o0 = 2 then
                some 0
              else
                if tm_shp o0 = 3 then
                  some 1
                else
                  if tm_shp o0 = 4 then
                    some 0
                  else
                    none
          else
            some 0
set_option maxHeartbeats 4000000 in
set_option maxRecDepth 100000 in
theorem c_X9_isA (l : Launch) (g : tm_G) (A : Nat → Prop) (L : List Nat) (hD : ∀ M, va_D A (tm_ws g L M)) (hF : ∀ o, tm_all o → o ∈ L) (M : tm_M) (o0 : Nat) (p1 : Int32) (r0 : Int32) (h : f_X9_isA o0 p1 = some r0) : Met l yX9_isA wsX9_isA { frames := 0, cells := 0, slots := 0, locals := 0 } (tm_PC g A L M [.ref (g.2.2 + o0), .int p1]) (tm_QI g A L (r0, M)) 0 0 A := by
  refine tm_start (cc := cX9_isA) (nL := 2) (ret := (some .boolean)) (F := tm_all) (plainFor_of_name (by decide)) rfl (Nat.le_of_ble_eq_true rfl) hD hF (fun p e s m args below meth c ls C0 hP hS hl => ?_)
  have hl : lv_has ls 2 [(0, .ref (g.2.2 + o0)), (1, .int p1)] := hl
  have C0 : tm_C p m c cX9_isA 2 s args wsX9_isA RX9 meth (some .boolean) g A L tm_all := C0
  obtain ⟨⟨hx, hb, hml, hown, hts⟩, hr, hlk, hK, hD, hG, hF⟩ := id C0
  unfold f_X9_isA at h
  refine lv_iload_n hx hb dX9_isA_0 rfl (lv_at hl 1 rfl) ?_
  by_cases c1 : p1 = 0
  · rw [if_pos c1] at h
    refine lv_tableIn (tgt := 36) (off := 35) hx hb dX9_isA_1 (by rw [c1]; decide) (by rw [c1]; decide) (by rw [c1]; decide) (by decide) ?_
    refine lv_iconst (v := 1) hx hb dX9_isA_36 (by decide) ?_
    exact tm_zret C0 (by unfold tm_isB; decide) (by rw [Option.some.inj h]) hP hS dX9_isA_37
  · rw [if_neg c1] at h
    by_cases c2 : p1 = 1
    · rw [if_pos c2] at h
      refine lv_tableIn (tgt := 38) (off := 37) hx hb dX9_isA_1 (by rw [c2]; decide) (by rw [c2]; decide) (by rw [c2]; decide) (by decide) ?_
      refine lv_aload_n hx hb dX9_isA_38 rfl (lv_at hl 0 rfl) ?_
      by_cases s3 : tm_shp o0 = 1
      · rw [if_pos s3] at h
        refine va_instE hx hb hown (hts _ kX9_isA_0) (tm_recv hK hP (hF _ (tm_lt s3)) (ci := 1) rfl (tm_mkX2 s3 _)) dX9_isA_39 ?_
        exact tm_zret C0 (by unfold tm_isB; decide) (by rw [Option.some.inj h]) hP hS dX9_isA_42
      · rw [if_neg s3] at h
        by_cases s4 : tm_shp o0 = 2
        · rw [if_pos s4] at h
          refine va_instY (C := RX3) hx hb hown (hts _ kX9_isA_0) (hG.2.2.2.2.1 _ (List.mem_of_getElem? (i := 1) rfl)) (tm_recv hK hP (hF _ (tm_lt s4)) (ci := 2) rfl (tm_mkX3 s4 _)) dX9_isA_39 ?_
          exact tm_zret C0 (by unfold tm_isB; decide) (by rw [Option.some.inj h]) hP hS dX9_isA_42
        · rw [if_neg s4] at h
          by_cases s5 : tm_shp o0 = 3
          · rw [if_pos s5] at h
            refine va_instNo (C := RX4) hx hb hown (hts _ kX9_isA_0) (hG.2.2.2.2.2.1 _ (List.mem_of_getElem? (i := 7) rfl)) (tm_recv hK hP (hF _ (tm_lt s5)) (ci := 3) rfl (tm_mkX4 s5 _)) dX9_isA_39 ?_
            exact tm_zret C0 (by unfold tm_isB; decide) (by rw [Option.some.inj h]) hP hS dX9_isA_42
          · rw [if_neg s5] at h
            by_cases s6 : tm_shp o0 = 4
            · rw [if_pos s6] at h
              refine va_instY (C := RX5) hx hb hown (hts _ kX9_isA_0) (hG.2.2.2.2.1 _ (List.mem_of_getElem? (i := 3) rfl)) (tm_recv hK hP (hF _ (tm_lt s6)) (ci := 4) rfl (tm_mkX5 s6 _)) dX9_isA_39 ?_
              exact tm_zret C0 (by unfold tm_isB; decide) (by rw [Option.some.inj h]) hP hS dX9_isA_42
            · rw [if_neg s6] at h
              cases h
    · rw [if_neg c2] at h
      by_cases c7 : p1 = 2
      · rw [if_pos c7] at h
        refine lv_tableIn (tgt := 43) (off := 42) hx hb dX9_isA_1 (by rw [c7]; decide) (by rw [c7]; decide) (by rw [c7]; decide) (by decide) ?_
        refine lv_aload_n hx hb dX9_isA_43 rfl (lv_at hl 0 rfl) ?_
        by_cases s8 : tm_shp o0 = 1
        · rw [if_pos s8] at h
          refine va_instNo (C := RX2) hx hb hown (hts _ kX9_isA_1) (hG.2.2.2.2.2.1 _ (List.mem_of_getElem? (i := 0) rfl)) (tm_recv hK hP (hF _ (tm_lt s8)) (ci := 1) rfl (tm_mkX2 s8 _)) dX9_isA_44 ?_
          exact tm_zret C0 (by unfold tm_isB; decide) (by rw [Option.some.inj h]) hP hS dX9_isA_47
        · rw [if_neg s8] at h
          by_cases s9 : tm_shp o0 = 2
          · rw [if_pos s9] at h
            refine va_instE hx hb hown (hts _ kX9_isA_1) (tm_recv hK hP (hF _ (tm_lt s9)) (ci := 2) rfl (tm_mkX3 s9 _)) dX9_isA_44 ?_
            exact tm_zret C0 (by unfold tm_isB; decide) (by rw [Option.some.inj h]) hP hS dX9_isA_47
          · rw [if_neg s9] at h
            by_cases s10 : tm_shp o0 = 3
            · rw [if_pos s10] at h
              refine va_instNo (C := RX4) hx hb hown (hts _ kX9_isA_1) (hG.2.2.2.2.2.1 _ (List.mem_of_getElem? (i := 8) rfl)) (tm_recv hK hP (hF _ (tm_lt s10)) (ci := 3) rfl (tm_mkX4 s10 _)) dX9_isA_44 ?_
              exact tm_zret C0 (by unfold tm_isB; decide) (by rw [Option.some.inj h]) hP hS dX9_isA_47
            · rw [if_neg s10] at h
              by_cases s11 : tm_shp o0 = 4
              · rw [if_pos s11] at h
                refine va_instNo (C := RX5) hx hb hown (hts _ kX9_isA_1) (hG.2.2.2.2.2.1 _ (List.mem_of_getElem? (i := 5) rfl)) (tm_recv hK hP (hF _ (tm_lt s11)) (ci := 4) rfl (tm_mkX5 s11 _)) dX9_isA_44 ?_
                exact tm_zret C0 (by unfold tm_isB; decide) (by rw [Option.some.inj h]) hP hS dX9_isA_47
              · rw [if_neg s11] at h
                cases h
      · rw [if_neg c7] at h
        by_cases c12 : p1 = 3
        · rw [if_pos c12] at h
          refine lv_tableIn (tgt := 48) (off := 47) hx hb dX9_isA_1 (by rw [c12]; decide) (by rw [c12]; decide) (by rw [c12]; decide) (by decide) ?_
          refine lv_aload_n hx hb dX9_isA_48 rfl (lv_at hl 0 rfl) ?_
          by_cases s13 : tm_shp o0 = 1
          · rw [if_pos s13] at h
            refine va_instNo (C := RX2) hx hb hown (hts _ kX9_isA_2) (hG.2.2.2.2.2.1 _ (List.mem_of_getElem? (i := 1) rfl)) (tm_recv hK hP (hF _ (tm_lt s13)) (ci := 1) rfl (tm_mkX2 s13 _)) dX9_isA_49 ?_
            exact tm_zret C0 (by unfold tm_isB; decide) (by rw [Option.some.inj h]) hP hS dX9_isA_52
          · rw [if_neg s13] at h
            by_cases s14 : tm_shp o0 = 2
            · rw [if_pos s14] at h
              refine va_instNo (C := RX3) hx hb hown (hts _ kX9_isA_2) (hG.2.2.2.2.2.1 _ (List.mem_of_getElem? (i := 3) rfl)) (tm_recv hK hP (hF _ (tm_lt s14)) (ci := 2) rfl (tm_mkX3 s14 _)) dX9_isA_49 ?_
              exact tm_zret C0 (by unfold tm_isB; decide) (by rw [Option.some.inj h]) hP hS dX9_isA_52
            · rw [if_neg s14] at h
              by_cases s15 : tm_shp o0 = 3
              · rw [if_pos s15] at h
                refine va_instNo (C := RX4) hx hb hown (hts _ kX9_isA_2) (hG.2.2.2.2.2.1 _ (List.mem_of_getElem? (i := 9) rfl)) (tm_recv hK hP (hF _ (tm_lt s15)) (ci := 3) rfl (tm_mkX4 s15 _)) dX9_isA_49 ?_
                exact tm_zret C0 (by unfold tm_isB; decide) (by rw [Option.some.inj h]) hP hS dX9_isA_52
              · rw [if_neg s15] at h
                by_cases s16 : tm_shp o0 = 4
                · rw [if_pos s16] at h
                  refine va_instE hx hb hown (hts _ kX9_isA_2) (tm_recv hK hP (hF _ (tm_lt s16)) (ci := 4) rfl (tm_mkX5 s16 _)) dX9_isA_49 ?_
                  exact tm_zret C0 (by unfold tm_isB; decide) (by rw [Option.some.inj h]) hP hS dX9_isA_52
                · rw [if_neg s16] at h
                  cases h
        · rw [if_neg c12] at h
          by_cases c17 : p1 = 4
          · rw [if_pos c17] at h
            refine lv_tableIn (tgt := 53) (off := 52) hx hb dX9_isA_1 (by rw [c17]; decide) (by rw [c17]; decide) (by rw [c17]; decide) (by decide) ?_
            refine lv_aload_n hx hb dX9_isA_53 rfl (lv_at hl 0 rfl) ?_
            by_cases s18 : tm_shp o0 = 1
            · rw [if_pos s18] at h
              refine va_instNo (C := RX2) hx hb hown (hts _ kX9_isA_3) (hG.2.2.2.2.2.1 _ (List.mem_of_getElem? (i := 2) rfl)) (tm_recv hK hP (hF _ (tm_lt s18)) (ci := 1) rfl (tm_mkX2 s18 _)) dX9_isA_54 ?_
              exact tm_zret C0 (by unfold tm_isB; decide) (by rw [Option.some.inj h]) hP hS dX9_isA_57
            · rw [if_neg s18] at h
              by_cases s19 : tm_shp o0 = 2
              · rw [if_pos s19] at h
                refine va_instNo (C := RX3) hx hb hown (hts _ kX9_isA_3) (hG.2.2.2.2.2.1 _ (List.mem_of_getElem? (i := 4) rfl)) (tm_recv hK hP (hF _ (tm_lt s19)) (ci := 2) rfl (tm_mkX3 s19 _)) dX9_isA_54 ?_
                exact tm_zret C0 (by unfold tm_isB; decide) (by rw [Option.some.inj h]) hP hS dX9_isA_57
              · rw [if_neg s19] at h
                by_cases s20 : tm_shp o0 = 3
                · rw [if_pos s20] at h
                  refine va_instE hx hb hown (hts _ kX9_isA_3) (tm_recv hK hP (hF _ (tm_lt s20)) (ci := 3) rfl (tm_mkX4 s20 _)) dX9_isA_54 ?_
                  exact tm_zret C0 (by unfold tm_isB; decide) (by rw [Option.some.inj h]) hP hS dX9_isA_57
                · rw [if_neg s20] at h
                  by_cases s21 : tm_shp o0 = 4
                  · rw [if_pos s21] at h
                    refine va_instNo (C := RX5) hx hb hown (hts _ kX9_isA_3) (hG.2.2.2.2.2.1 _ (List.mem_of_getElem? (i := 6) rfl)) (tm_recv hK hP (hF _ (tm_lt s21)) (ci := 4) rfl (tm_mkX5 s21 _)) dX9_isA_54 ?_
                    exact tm_zret C0 (by unfold tm_isB; decide) (by rw [Option.some.inj h]) hP hS dX9_isA_57
                  · rw [if_neg s21] at h
                    cases h
          · rw [if_neg c17] at h
            have c1t := lv_neT (a := 0) c1 (by decide)
            have c2t := lv_neT (a := 1) c2 (by decide)
            have c7t := lv_neT (a := 2) c7 (by decide)
            have c12t := lv_neT (a := 3) c12 (by decide)
            have c17t := lv_neT (a := 4) c17 (by decide)
            refine lv_tableOut (tgt := 58) hx hb dX9_isA_1 (by omega) (by decide) ?_
            refine lv_iconst (v := 0) hx hb dX9_isA_58 (by decide) ?_
            exact tm_zret C0 (by unfold tm_isB; decide) (by rw [Option.some.inj h]) hP hS dX9_isA_59
/-! X9_as -/
theorem nX9_as_X9 : ∀ w ∈ wsX90, w ∈ wsX9_as := by decide +kernel
theorem kX9_as_0 : Cond.fieldLink RX9 43 "QuarrelDesk" "now" "LQuarrelDesk$Year;" ∈ wsX9_as := by decide +kernel
theorem nX9_as_X8 : ∀ w ∈ wsX80, w ∈ wsX9_as := by decide +kernel
theorem kX9_as_1 : Cond.fieldLink RX9 118 "QuarrelDesk$Year" "lives" "[LQuarrelDesk$Life;" ∈ wsX9_as := by decide +kernel
theorem nX9_as_X1 : ∀ w ∈ wsX10, w ∈ wsX9_as := by decide +kernel
theorem kX9_as_2 : Cond.fieldLink RX9 125 "QuarrelDesk$Life" "nature" "LQuarrelDesk$Couple;" ∈ wsX9_as := by decide +kernel
theorem kX9_as_3 : Cond.fieldLink RX9 133 "QuarrelDesk$Year" "day" "I" ∈ wsX9_as := by decide +kernel
theorem kX9_as_4 : Cond.code yX0_gain cX0_gain 3 (some .int) ∈ wsX9_as := by decide +kernel
def f_X9_as (M : tm_M) (p1 : Int32) (p2 : Int32) : Option Int32 :=
  (f_X9_unknown M p1).bind fun r1 =>
  if r1 = 0 then
    (f_X9_outside p2 0 4).bind fun r4 =>
    if r4 = 0 then
      (tm_rdr 22 6 p1).bind fun x7 =>
      tm_gd (tm_shp x7 = 0) <|
      tm_gd (¬ M x7 0 = 0) <|
      (f_X9_isA ((M x7 0).toNatClampNeg) p2).bind fun r11 =>
      if r11 = 0 then
        some (-4)
      else
        tm_gd (¬ M x7 0 = 0) <|
        if tm_shp ((M x7 0).toNatClampNeg) = 1 then
          (f_X0_gain M ((M x7 0).toNatClampNeg) x7 (M 20 3)).bind fun r16 =>
          some r16
        else
          if tm_shp ((M x7 0).toNatClampNeg) = 2 then
            (f_X3_gain M ((M x7 0).toNatClampNeg) x7 (M 20 3)).bind fun r19 =>
            some r19
          else
            if tm_shp ((M x7 0).toNatClampNeg) = 3 then
              (f_X4_gain M ((M x7 0).toNatClampNeg) x7 (M 20 3)).bind fun r22 =>
              some r22
            else
              if tm_shp ((M x7 0).toNatClampNeg) = 4 then
                (f_X5_gain M ((M x7 0).toNatClampNeg) x7 (M 20 3)).bind fun r25 =>
                some r25
              else
                none
    else
      some (-3)
  else
    some (-2)
set_option maxHeartbeats 4000000 in
set_option maxRecDepth 100000 in
theorem c_X9_as (l : Launch) (g : tm_G) (A : Nat → Prop) (L : List Nat) (hD : ∀ M, va_D A (tm_ws g L M)) (hF : ∀ o, tm_all o → o ∈ L) (M : tm_M) (p1 : Int32) (p2 : Int32) (r0 : Int32) (h : f_X9_as M p1 p2 = some r0) : Met l yX9_as wsX9_as { frames := 2, cells := 0, slots := 0, locals := 42 } (tm_PC g A L M [.ref (g.2.2 + 0), .int p1, .int p2]) (tm_QI g A L (r0, M)) 0 0 A := by
  refine tm_start (cc := cX9_as) (nL := 4) (ret := (some .int)) (F := tm_all) (plainFor_of_name (by decide)) rfl (Nat.le_of_ble_eq_true rfl) hD hF (fun p e s m args below meth c ls C0 hP hS hl => ?_)
  have hl : lv_has ls 4 [(0, .ref (g.2.2 + 0)), (1, .int p1), (2, .int p2)] := hl
  have C0 : tm_C p m c cX9_as 4 s args wsX9_as RX9 meth (some .int) g A L tm_all := C0
  obtain ⟨⟨hx, hb, hml, hown, hts⟩, hr, hlk, hK, hD, hG, hF⟩ := id C0
  unfold f_X9_as at h
  refine lv_aload_n hx hb dX9_as_0 rfl (lv_at hl 0 rfl) ?_
  refine lv_iload_n hx hb dX9_as_1 rfl (lv_at hl 1 rfl) ?_
  obtain ⟨r1, e2, h⟩ := tm_bd_some h
  refine tm_backI (r0 := r1) (M0 := M) (fun _ q => q) (tm_callV (As := [.int p1]) (rest := []) ⟨hx, hb, hml, hown, hts⟩ hK hG hP hS (c_X9_unknown l g A L hD hF M p1 r1 e2) (cwV 1 hts gX9_as_X9_unknown rfl rfl rfl (by decide +kernel) ⟨Nat.le_of_ble_eq_true rfl, Nat.le_of_ble_eq_true rfl⟩) (tm_recv hK hP (hF 0 (by decide)) (ci := 8) rfl (tm_mkX9 (by decide) _)) rfl hl.1 (lv_room (Nat.le_of_ble_eq_true rfl)) dX9_as_2 ⟨Nat.zero_le _, Nat.zero_le _⟩) hS (fun H locs hP hS => ?_)
  refine lv_if_eq (tgt := 11) hx hb dX9_as_5 (by decide) (fun c3 => ?_) (fun c3 => ?_)
  · rw [if_pos c3] at h
    refine lv_iload_n hx hb dX9_as_11 rfl (lv_at hl 2 rfl) ?_
    refine lv_iconst (v := 0) hx hb dX9_as_12 (by decide) ?_
    refine lv_iconst (v := 4) hx hb dX9_as_13 (by decide) ?_
    obtain ⟨r4, e5, h⟩ := tm_bd_some h
    refine tm_backI (r0 := r4) (M0 := M) (fun _ q => q) (tm_callS (As := [.int p2, .int 0, .int 4]) (rest := []) ⟨hx, hb, hml, hown, hts⟩ hK hG hP hS (c_X9_outside l g A L hD hF M p2 0 4 r4 e5) (va_cwS 3 hts gX9_as_X9_outside rfl rfl rfl (by decide +kernel) ⟨Nat.le_of_ble_eq_true rfl, Nat.le_of_ble_eq_true rfl⟩) rfl hl.1 (lv_room (Nat.le_of_ble_eq_true rfl)) dX9_as_14 ⟨Nat.zero_le _, Nat.zero_le _⟩) hS (fun H locs hP hS => ?_)
    refine lv_if_eq (tgt := 23) hx hb dX9_as_17 (by decide) (fun c6 => ?_) (fun c6 => ?_)
    · rw [if_pos c6] at h
      refine lv_aload_n hx hb dX9_as_23 rfl (lv_at hl 0 rfl) ?_
      refine tm_get (C := RX9) (T := TX9) (N := 15) (v := .ref (g.2.2 + 20)) hx hb hts nX9_as_X9 hown hK hP (hF 0 (by decide)) (tm_mkX9 (by decide) _) rfl 3 (by decide) (hts _ kX9_as_0) rfl dX9_as_24 ?_
      refine tm_get (C := RX8) (T := TX8) (N := 4) (v := .ref (g.2.2 + 22)) hx hb hts nX9_as_X8 hown hK hP (hF 20 (by decide)) (tm_mkX8 (by decide) _) rfl 1 (by decide) (hts _ kX9_as_1) rfl dX9_as_27 ?_
      refine lv_iload_n hx hb dX9_as_30 rfl (lv_at hl 1 rfl) ?_
      obtain ⟨x7, e8, h⟩ := tm_bd_some h
      refine tm_aald hx hb hK hP 3 (hF 22 (by decide)) (tm_mkL (by decide)) rfl e8 dX9_as_31 ?_
      refine lv_astore_n (lv' := [(3, .ref (g.2.2 + x7)), (0, .ref (g.2.2 + 0)), (1, .int p1), (2, .int p2)]) hx hb dX9_as_32 rfl hl (by decide) rfl (fun ls hl => ?_)
      refine lv_aload_n hx hb dX9_as_33 rfl (lv_at hl 0 rfl) ?_
      obtain ⟨g9, h⟩ := tm_gd_some h
      obtain ⟨g10, h⟩ := tm_gd_some h
      refine tm_get (C := RX1) (T := TX1) (N := 12) (v := .ref (g.2.2 + (M x7 0).toNatClampNeg)) hx hb hts nX9_as_X1 hown hK hP (hF _ (tm_lt g9)) (tm_mkX1 g9 _) rfl 0 (by decide) (hts _ kX9_as_2) (tm_natv g10) dX9_as_34 ?_
      refine lv_iload_n hx hb dX9_as_37 rfl (lv_at hl 3 rfl) ?_
      obtain ⟨r11, e12, h⟩ := tm_bd_some h
      refine tm_backI (r0 := r11) (M0 := M) (fun _ q => q) (tm_callS (As := [.ref (g.2.2 + (M x7 0).toNatClampNeg), .int p2]) (rest := []) ⟨hx, hb, hml, hown, hts⟩ hK hG hP hS (c_X9_isA l g A L hD hF M ((M x7 0).toNatClampNeg) p2 r11 e12) (va_cwS 2 hts gX9_as_X9_isA rfl rfl rfl (by decide +kernel) ⟨Nat.le_of_ble_eq_true rfl, Nat.le_of_ble_eq_true rfl⟩) rfl hl.1 (lv_room (Nat.le_of_ble_eq_true rfl)) dX9_as_38 ⟨Nat.zero_le _, Nat.zero_le _⟩) hS (fun H locs hP hS => ?_)
      refine lv_if_eq (tgt := 62) hx hb dX9_as_41 (by decide) (fun c13 => ?_) (fun c13 => ?_)
      · rw [if_pos c13] at h
        refine lv_bipush (v := (-4)) hx hb dX9_as_62 (by decide) ?_
        exact tm_iret C0 (by rw [Option.some.inj h]) hP hS dX9_as_64
      · rw [if_neg c13] at h
        refine lv_aload_n hx hb dX9_as_44 rfl (lv_at hl 0 rfl) ?_
        obtain ⟨g14, h⟩ := tm_gd_some h
        refine tm_get (C := RX1) (T := TX1) (N := 12) (v := .ref (g.2.2 + (M x7 0).toNatClampNeg)) hx hb hts nX9_as_X1 hown hK hP (hF _ (tm_lt g9)) (tm_mkX1 g9 _) rfl 0 (by decide) (hts _ kX9_as_2) (tm_natv g14) dX9_as_45 ?_
        refine lv_aload_n hx hb dX9_as_48 rfl (lv_at hl 0 rfl) ?_
        refine lv_aload_n hx hb dX9_as_49 rfl (lv_at hl 1 rfl) ?_
        refine tm_get (C := RX9) (T := TX9) (N := 15) (v := .ref (g.2.2 + 20)) hx hb hts nX9_as_X9 hown hK hP (hF 0 (by decide)) (tm_mkX9 (by decide) _) rfl 3 (by decide) (hts _ kX9_as_0) rfl dX9_as_50 ?_
        refine tm_get (C := RX8) (T := TX8) (N := 4) (v := .int (M 20 3)) hx hb hts nX9_as_X8 hown hK hP (hF 20 (by decide)) (tm_mkX8 (by decide) _) rfl 3 (by decide) (hts _ kX9_as_3) rfl dX9_as_53 ?_
        by_cases s15 : tm_shp ((M x7 0).toNatClampNeg) = 1
        · rw [if_pos s15] at h
          obtain ⟨r16, e17, h⟩ := tm_bd_some h
          refine tm_backI (r0 := r16) (M0 := M) (fun _ q => q) (tm_callU (As := [.ref (g.2.2 + x7), .int (M 20 3)]) (rest := []) ⟨hx, hb, hml, hown, hts⟩ hK hG hP hS (c_X0_gain l g A L hD hF M ((M x7 0).toNatClampNeg) x7 (M 20 3) r16 e17) (va_cwU 2 hts gX9_as_X0_gain_u136X2 rfl rfl rfl rfl (by decide +kernel) ⟨Nat.le_of_ble_eq_true rfl, Nat.le_of_ble_eq_true rfl⟩) (tm_recv hK hP (hF _ (tm_lt s15)) (ci := 1) rfl (tm_mkX2 s15 _)) rfl hl.1 (lv_room (Nat.le_of_ble_eq_true rfl)) dX9_as_56 ⟨Nat.zero_le _, Nat.zero_le _⟩) hS (fun H locs hP hS => ?_)
          refine lv_goto (tgt := 64) hx hb dX9_as_59 (by decide) ?_
          exact tm_iret C0 (by rw [Option.some.inj h]) hP hS dX9_as_64
        · rw [if_neg s15] at h
          by_cases s18 : tm_shp ((M x7 0).toNatClampNeg) = 2
          · rw [if_pos s18] at h
            obtain ⟨r19, e20, h⟩ := tm_bd_some h
            refine tm_backI (r0 := r19) (M0 := M) (fun _ q => q) (tm_callU (As := [.ref (g.2.2 + x7), .int (M 20 3)]) (rest := []) ⟨hx, hb, hml, hown, hts⟩ hK hG hP hS (c_X3_gain l g A L hD hF M ((M x7 0).toNatClampNeg) x7 (M 20 3) r19 e20) (va_cwO 2 hts gX9_as_X3_gain_u136X3 rfl rfl rfl (kX9_as_4) (by decide +kernel) ⟨Nat.le_of_ble_eq_true rfl, Nat.le_of_ble_eq_true rfl⟩) (tm_recv hK hP (hF _ (tm_lt s18)) (ci := 2) rfl (tm_mkX3 s18 _)) rfl hl.1 (lv_room (Nat.le_of_ble_eq_true rfl)) dX9_as_56 ⟨Nat.zero_le _, Nat.zero_le _⟩) hS (fun H locs hP hS => ?_)
            refine lv_goto (tgt := 64) hx hb dX9_as_59 (by decide) ?_
            exact tm_iret C0 (by rw [Option.some.inj h]) hP hS dX9_as_64
          · rw [if_neg s18] at h
            by_cases s21 : tm_shp ((M x7 0).toNatClampNeg) = 3
            · rw [if_pos s21] at h
              obtain ⟨r22, e23, h⟩ := tm_bd_some h
              refine tm_backI (r0 := r22) (M0 := M) (fun _ q => q) (tm_callU (As := [.ref (g.2.2 + x7), .int (M 20 3)]) (rest := []) ⟨hx, hb, hml, hown, hts⟩ hK hG hP hS (c_X4_gain l g A L hD hF M ((M x7 0).toNatClampNeg) x7 (M 20 3) r22 e23) (va_cwO 2 hts gX9_as_X4_gain_u136X4 rfl rfl rfl (kX9_as_4) (by decide +kernel) ⟨Nat.le_of_ble_eq_true rfl, Nat.le_of_ble_eq_true rfl⟩) (tm_recv hK hP (hF _ (tm_lt s21)) (ci := 3) rfl (tm_mkX4 s21 _)) rfl hl.1 (lv_room (Nat.le_of_ble_eq_true rfl)) dX9_as_56 ⟨Nat.zero_le _, Nat.zero_le _⟩) hS (fun H locs hP hS => ?_)
              refine lv_goto (tgt := 64) hx hb dX9_as_59 (by decide) ?_
              exact tm_iret C0 (by rw [Option.some.inj h]) hP hS dX9_as_64
            · rw [if_neg s21] at h
              by_cases s24 : tm_shp ((M x7 0).toNatClampNeg) = 4
              · rw [if_pos s24] at h
                obtain ⟨r25, e26, h⟩ := tm_bd_some h
                refine tm_backI (r0 := r25) (M0 := M) (fun _ q => q) (tm_callU (As := [.ref (g.2.2 + x7), .int (M 20 3)]) (rest := []) ⟨hx, hb, hml, hown, hts⟩ hK hG hP hS (c_X5_gain l g A L hD hF M ((M x7 0).toNatClampNeg) x7 (M 20 3) r25 e26) (va_cwO 2 hts gX9_as_X5_gain_u136X5 rfl rfl rfl (kX9_as_4) (by decide +kernel) ⟨Nat.le_of_ble_eq_true rfl, Nat.le_of_ble_eq_true rfl⟩) (tm_recv hK hP (hF _ (tm_lt s24)) (ci := 4) rfl (tm_mkX5 s24 _)) rfl hl.1 (lv_room (Nat.le_of_ble_eq_true rfl)) dX9_as_56 ⟨Nat.zero_le _, Nat.zero_le _⟩) hS (fun H locs hP hS => ?_)
                refine lv_goto (tgt := 64) hx hb dX9_as_59 (by decide) ?_
                exact tm_iret C0 (by rw [Option.some.inj h]) hP hS dX9_as_64
              · rw [if_neg s24] at h
                cases h
    · rw [if_neg c6] at h
      refine lv_bipush (v := (-3)) hx hb dX9_as_20 (by decide) ?_
      exact tm_iret C0 (by rw [Option.some.inj h]) hP hS dX9_as_22
  · rw [if_neg c3] at h
    refine lv_bipush (v := (-2)) hx hb dX9_as_8 (by decide) ?_
    exact tm_iret C0 (by rw [Option.some.inj h]) hP hS dX9_as_10
/-! X9_term -/
theorem nX9_term_X9 : ∀ w ∈ wsX90, w ∈ wsX9_term := by decide +kernel
theorem kX9_term_0 : Cond.fieldLink RX9 43 "QuarrelDesk" "now" "LQuarrelDesk$Year;" ∈ wsX9_term := by decide +kernel
theorem nX9_term_X8 : ∀ w ∈ wsX80, w ∈ wsX9_term := by decide +kernel
theorem kX9_term_1 : Cond.fieldLink RX9 140 "QuarrelDesk$Year" "terms" "LQuarrelDesk$Terms;" ∈ wsX9_term := by decide +kernel
def f_X9_term (M : tm_M) (p1 : Int32) : Option Int32 :=
  (f_X9_outside p1 0 5).bind fun r1 =>
  if r1 = 0 then
    (f_X6_get M 21 p1).bind fun r4 =>
    some r4
  else
    some (-3)
set_option maxHeartbeats 4000000 in
set_option maxRecDepth 100000 in
theorem c_X9_term (l : Launch) (g : tm_G) (A : Nat → Prop) (L : List Nat) (hD : ∀ M, va_D A (tm_ws g L M)) (hF : ∀ o, tm_all o → o ∈ L) (M : tm_M) (p1 : Int32) (r0 : Int32) (h : f_X9_term M p1 = some r0) : Met l yX9_term wsX9_term { frames := 1, cells := 0, slots := 0, locals := 22 } (tm_PC g A L M [.ref (g.2.2 + 0), .int p1]) (tm_QI g A L (r0, M)) 0 0 A := by
  refine tm_start (cc := cX9_term) (nL := 2) (ret := (some .int)) (F := tm_all) (plainFor_of_name (by decide)) rfl (Nat.le_of_ble_eq_true rfl) hD hF (fun p e s m args below meth c ls C0 hP hS hl => ?_)
  have hl : lv_has ls 2 [(0, .ref (g.2.2 + 0)), (1, .int p1)] := hl
  have C0 : tm_C p m c cX9_term 2 s args wsX9_term RX9 meth (some .int) g A L tm_all := C0
  obtain ⟨⟨hx, hb, hml, hown, hts⟩, hr, hlk, hK, hD, hG, hF⟩ := id C0
  unfold f_X9_term at h
  refine lv_iload_n hx hb dX9_term_0 rfl (lv_at hl 1 rfl) ?_
  refine lv_iconst (v := 0) hx hb dX9_term_1 (by decide) ?_
  refine lv_iconst (v := 5) hx hb dX9_term_2 (by decide) ?_
  obtain ⟨r1, e2, h⟩ := tm_bd_some h
  refine tm_backI (r0 := r1) (M0 := M) (fun _ q => q) (tm_callS (As := [.int p1, .int 0, .int 5]) (rest := []) ⟨hx, hb, hml, hown, hts⟩ hK hG hP hS (c_X9_outside l g A L hD hF M p1 0 5 r1 e2) (va_cwS 3 hts gX9_term_X9_outside rfl rfl rfl (by decide +kernel) ⟨Nat.le_of_ble_eq_true rfl, Nat.le_of_ble_eq_true rfl⟩) rfl hl.1 (lv_room (Nat.le_of_ble_eq_true rfl)) dX9_term_3 ⟨Nat.zero_le _, Nat.zero_le _⟩) hS (fun H locs hP hS => ?_)
  refine lv_if_eq (tgt := 14) hx hb dX9_term_6 (by decide) (fun c3 => ?_) (fun c3 => ?_)
  · rw [if_pos c3] at h
    refine lv_aload_n hx hb dX9_term_14 rfl (lv_at hl 0 rfl) ?_
    refine tm_get (C := RX9) (T := TX9) (N := 15) (v := .ref (g.2.2 + 20)) hx hb hts nX9_term_X9 hown hK hP (hF 0 (by decide)) (tm_mkX9 (by decide) _) rfl 3 (by decide) (hts _ kX9_term_0) rfl dX9_term_15 ?_
    refine tm_get (C := RX8) (T := TX8) (N := 4) (v := .ref (g.2.2 + 21)) hx hb hts nX9_term_X8 hown hK hP (hF 20 (by decide)) (tm_mkX8 (by decide) _) rfl 0 (by decide) (hts _ kX9_term_1) rfl dX9_term_18 ?_
    refine lv_iload_n hx hb dX9_term_21 rfl (lv_at hl 1 rfl) ?_
    obtain ⟨r4, e5, h⟩ := tm_bd_some h
    refine tm_backI (r0 := r4) (M0 := M) (fun _ q => q) (tm_callV (As := [.int p1]) (rest := []) ⟨hx, hb, hml, hown, hts⟩ hK hG hP hS (c_X6_get l g A L hD hF M 21 p1 r4 e5) (cwV 1 hts gX9_term_X6_get rfl rfl rfl (by decide +kernel) ⟨Nat.le_of_ble_eq_true rfl, Nat.le_of_ble_eq_true rfl⟩) (tm_recv hK hP (hF 21 (by decide)) (ci := 5) rfl (tm_mkX6 (by decide) _)) rfl hl.1 (lv_room (Nat.le_of_ble_eq_true rfl)) dX9_term_22 ⟨Nat.zero_le _, Nat.zero_le _⟩) hS (fun H locs hP hS => ?_)
    exact tm_iret C0 (by rw [Option.some.inj h]) hP hS dX9_term_25
  · rw [if_neg c3] at h
    refine lv_bipush (v := (-3)) hx hb dX9_term_9 (by decide) ?_
    refine lv_goto (tgt := 25) hx hb dX9_term_11 (by decide) ?_
    exact tm_iret C0 (by rw [Option.some.inj h]) hP hS dX9_term_25
/-! J9_floorMod_7cf53 -/
def f_J9_floorMod_7cf53 (p0 : Int32) (p1 : Int32) : Option Int32 :=
  tm_gd (¬ p1 = 0) <|
  (some (p0 - p0 / p1 * p1)).bind fun x2 =>
  if 0 ≤ (p0 ^^^ p1) then
    some x2
  else
    if x2 = 0 then
      some x2
    else
      some (x2 + p1)
set_option maxHeartbeats 4000000 in
set_option maxRecDepth 100000 in
theorem c_J9_floorMod_7cf53 (l : Launch) (g : tm_G) (A : Nat → Prop) (L : List Nat) (hD : ∀ M, va_D A (tm_ws g L M)) (hF : ∀ o, tm_all o → o ∈ L) (M : tm_M) (p0 : Int32) (p1 : Int32) (r0 : Int32) (h : f_J9_floorMod_7cf53 p0 p1 = some r0) : Met l yJ9_floorMod_7cf53 wsJ9_floorMod_7cf53 { frames := 0, cells := 0, slots := 0, locals := 0 } (tm_PC g A L M [.int p0, .int p1]) (tm_QI g A L (r0, M)) 0 0 A := by
  refine tm_start (cc := cJ9_floorMod_7cf53) (nL := 3) (ret := (some .int)) (F := tm_all) (by decide +kernel) rfl (Nat.le_of_ble_eq_true rfl) hD hF (fun p e s m args below meth c ls C0 hP hS hl => ?_)
  have hl : lv_has ls 3 [(0, .int p0), (1, .int p1)] := hl
  have C0 : tm_C p m c cJ9_floorMod_7cf53 3 s args wsJ9_floorMod_7cf53 RJ9 meth (some .int) g A L tm_all := C0
  obtain ⟨⟨hx, hb, hml, hown, hts⟩, hr, hlk, hK, hD, hG, hF⟩ := id C0
  unfold f_J9_floorMod_7cf53 at h
  refine lv_iload_n hx hb dJ9_floorMod_7cf53_0 rfl (lv_at hl 0 rfl) ?_
  refine lv_iload_n hx hb dJ9_floorMod_7cf53_1 rfl (lv_at hl 1 rfl) ?_
  obtain ⟨g1, h⟩ := tm_gd_some h
  refine lv_irem hx hb dJ9_floorMod_7cf53_2 g1 ?_
  refine tm_nam h (fun x2 h => ?_)
  refine lv_istore_n (lv' := [(2, .int x2), (0, .int p0), (1, .int p1)]) hx hb dJ9_floorMod_7cf53_3 rfl hl (by decide) rfl (fun ls hl => ?_)
  refine lv_iload_n hx hb dJ9_floorMod_7cf53_4 rfl (lv_at hl 1 rfl) ?_
  refine lv_iload_n hx hb dJ9_floorMod_7cf53_5 rfl (lv_at hl 2 rfl) ?_
  refine lv_ixor hx hb dJ9_floorMod_7cf53_6 ?_
  refine lv_if_ge (tgt := 18) hx hb dJ9_floorMod_7cf53_7 (by decide) (fun c3 => ?_) (fun c3 => ?_)
  · rw [if_pos c3] at h
    refine lv_iload_n hx hb dJ9_floorMod_7cf53_18 rfl (lv_at hl 0 rfl) ?_
    exact tm_iret C0 (by rw [Option.some.inj h]) hP hS dJ9_floorMod_7cf53_19
  · rw [if_neg c3] at h
    refine lv_iload_n hx hb dJ9_floorMod_7cf53_10 rfl (lv_at hl 0 rfl) ?_
    refine lv_if_eq (tgt := 18) hx hb dJ9_floorMod_7cf53_11 (by decide) (fun c4 => ?_) (fun c4 => ?_)
    · rw [if_pos c4] at h
      refine lv_iload_n hx hb dJ9_floorMod_7cf53_18 rfl (lv_at hl 0 rfl) ?_
      exact tm_iret C0 (by rw [Option.some.inj h]) hP hS dJ9_floorMod_7cf53_19
    · rw [if_neg c4] at h
      refine lv_iload_n hx hb dJ9_floorMod_7cf53_14 rfl (lv_at hl 0 rfl) ?_
      refine lv_iload_n hx hb dJ9_floorMod_7cf53_15 rfl (lv_at hl 2 rfl) ?_
      refine lv_iadd hx hb dJ9_floorMod_7cf53_16 ?_
      exact tm_iret C0 (by rw [Option.some.inj h]) hP hS dJ9_floorMod_7cf53_17
/-! X9_pastPlace -/
theorem nX9_pastPlace_X9 : ∀ w ∈ wsX90, w ∈ wsX9_pastPlace := by decide +kernel
theorem kX9_pastPlace_0 : Cond.fieldLink RX9 261 "QuarrelDesk" "oldest" "I" ∈ wsX9_pastPlace := by decide +kernel
def f_X9_pastPlace (M : tm_M) (p1 : Int32) : Option Int32 :=
  (f_J9_floorMod_7cf53 ((M 0 7) + p1) 8).bind fun r1 =>
  some r1
set_option maxHeartbeats 4000000 in
set_option maxRecDepth 100000 in
theorem c_X9_pastPlace (l : Launch) (g : tm_G) (A : Nat → Prop) (L : List Nat) (hD : ∀ M, va_D A (tm_ws g L M)) (hF : ∀ o, tm_all o → o ∈ L) (M : tm_M) (p1 : Int32) (r0 : Int32) (h : f_X9_pastPlace M p1 = some r0) : Met l yX9_pastPlace wsX9_pastPlace { frames := 1, cells := 0, slots := 0, locals := 22 } (tm_PC g A L M [.ref (g.2.2 + 0), .int p1]) (tm_QI g A L (r0, M)) 0 0 A := by
  refine tm_start (cc := cX9_pastPlace) (nL := 2) (ret := (some .int)) (F := tm_all) (plainFor_of_name (by decide)) rfl (Nat.le_of_ble_eq_true rfl) hD hF (fun p e s m args below meth c ls C0 hP hS hl => ?_)
  have hl : lv_has ls 2 [(0, .ref (g.2.2 + 0)), (1, .int p1)] := hl
  have C0 : tm_C p m c cX9_pastPlace 2 s args wsX9_pastPlace RX9 meth (some .int) g A L tm_all := C0
  obtain ⟨⟨hx, hb, hml, hown, hts⟩, hr, hlk, hK, hD, hG, hF⟩ := id C0
  unfold f_X9_pastPlace at h
  refine lv_aload_n hx hb dX9_pastPlace_0 rfl (lv_at hl 0 rfl) ?_
  refine tm_get (C := RX9) (T := TX9) (N := 15) (v := .int (M 0 7)) hx hb hts nX9_pastPlace_X9 hown hK hP (hF 0 (by decide)) (tm_mkX9 (by decide) _) rfl 7 (by decide) (hts _ kX9_pastPlace_0) rfl dX9_pastPlace_1 ?_
  refine lv_iload_n hx hb dX9_pastPlace_4 rfl (lv_at hl 1 rfl) ?_
  refine lv_iadd hx hb dX9_pastPlace_5 ?_
  refine lv_bipush (v := 8) hx hb dX9_pastPlace_6 (by decide) ?_
  obtain ⟨r1, e2, h⟩ := tm_bd_some h
  refine tm_backI (r0 := r1) (M0 := M) (fun _ q => q) (tm_callS (As := [.int ((M 0 7) + p1), .int 8]) (rest := []) ⟨hx, hb, hml, hown, hts⟩ hK hG hP hS (c_J9_floorMod_7cf53 l g A L hD hF M ((M 0 7) + p1) 8 r1 e2) (va_cwS 2 hts gX9_pastPlace_J9_floorMod_7cf53 rfl rfl rfl (by decide +kernel) ⟨Nat.le_of_ble_eq_true rfl, Nat.le_of_ble_eq_true rfl⟩) rfl hl.1 (lv_room (Nat.le_of_ble_eq_true rfl)) dX9_pastPlace_8 ⟨Nat.zero_le _, Nat.zero_le _⟩) hS (fun H locs hP hS => ?_)
  exact tm_iret C0 (by rw [Option.some.inj h]) hP hS dX9_pastPlace_11
/-! X9_remember -/
theorem nX9_remember_X9 : ∀ w ∈ wsX90, w ∈ wsX9_remember := by decide +kernel
theorem kX9_remember_0 : Cond.fieldLink RX9 175 "QuarrelDesk" "undos" "I" ∈ wsX9_remember := by decide +kernel
theorem kX9_remember_1 : Cond.fieldLink RX9 54 "QuarrelDesk" "past" "[LQuarrelDesk$Year;" ∈ wsX9_remember := by decide +kernel
theorem kX9_remember_2 : Cond.fieldLink RX9 43 "QuarrelDesk" "now" "LQuarrelDesk$Year;" ∈ wsX9_remember := by decide +kernel
theorem kX9_remember_3 : Cond.fieldLink RX9 261 "QuarrelDesk" "oldest" "I" ∈ wsX9_remember := by decide +kernel
def f_X9_remember (M : tm_M) : Option tm_M :=
  if (M 0 8) < 8 then
    (f_X9_pastPlace M (M 0 8)).bind fun r2 =>
    (tm_rdr 49 8 r2).bind fun x4 =>
    tm_gd (tm_shp x4 = 7) <|
    (f_X8_copy M x4 20).bind fun M8 =>
    (some (tm_st M8 0 8 ((M8 0 8) + 1))).bind fun M10 =>
    some M10
  else
    (f_X9_pastPlace M 1).bind fun r12 =>
    (some (tm_st M 0 7 r12)).bind fun M14 =>
    (some (tm_st M14 0 8 7)).bind fun M16 =>
    (f_X9_pastPlace M16 (M16 0 8)).bind fun r18 =>
    (tm_rdr 49 8 r18).bind fun x20 =>
    tm_gd (tm_shp x20 = 7) <|
    (f_X8_copy M16 x20 20).bind fun M24 =>
    (some (tm_st M24 0 8 ((M24 0 8) + 1))).bind fun M26 =>
    some M26
set_option maxHeartbeats 4000000 in
set_option maxRecDepth 100000 in
theorem c_X9_remember (l : Launch) (g : tm_G) (A : Nat → Prop) (L : List Nat) (hD : ∀ M, va_D A (tm_ws g L M)) (hF : ∀ o, tm_all o → o ∈ L) (M : tm_M) (M0 : tm_M) (h : f_X9_remember M = some M0) : Met l yX9_remember wsX9_remember { frames := 2, cells := 0, slots := 0, locals := 43 } (tm_PC g A L M [.ref (g.2.2 + 0)]) (tm_QV g A L M0) 0 0 A := by
  refine tm_start (cc := cX9_remember) (nL := 1) (ret := none) (F := tm_all) (plainFor_of_name (by decide)) rfl (Nat.le_of_ble_eq_true rfl) hD hF (fun p e s m args below meth c ls C0 hP hS hl => ?_)
  have hl : lv_has ls 1 [(0, .ref (g.2.2 + 0))] := hl
  have C0 : tm_C p m c cX9_remember 1 s args wsX9_remember RX9 meth none g A L tm_all := C0
  obtain ⟨⟨hx, hb, hml, hown, hts⟩, hr, hlk, hK, hD, hG, hF⟩ := id C0
  unfold f_X9_remember at h
  refine lv_aload_n hx hb dX9_remember_0 rfl (lv_at hl 0 rfl) ?_
  refine tm_get (C := RX9) (T := TX9) (N := 15) (v := .int (M 0 8)) hx hb hts nX9_remember_X9 hown hK hP (hF 0 (by decide)) (tm_mkX9 (by decide) _) rfl 8 (by decide) (hts _ kX9_remember_0) rfl dX9_remember_1 ?_
  refine lv_bipush (v := 8) hx hb dX9_remember_4 (by decide) ?_
  refine lv_icmp_lt (tgt := 24) hx hb dX9_remember_6 (by decide) (fun c1 => ?_) (fun c1 => ?_)
  · rw [if_pos c1] at h
    refine lv_aload_n hx hb dX9_remember_24 rfl (lv_at hl 0 rfl) ?_
    refine tm_get (C := RX9) (T := TX9) (N := 15) (v := .ref (g.2.2 + 49)) hx hb hts nX9_remember_X9 hown hK hP (hF 0 (by decide)) (tm_mkX9 (by decide) _) rfl 6 (by decide) (hts _ kX9_remember_1) rfl dX9_remember_25 ?_
    refine lv_aload_n hx hb dX9_remember_28 rfl (lv_at hl 0 rfl) ?_
    refine lv_aload_n hx hb dX9_remember_29 rfl (lv_at hl 0 rfl) ?_
    refine tm_get (C := RX9) (T := TX9) (N := 15) (v := .int (M 0 8)) hx hb hts nX9_remember_X9 hown hK hP (hF 0 (by decide)) (tm_mkX9 (by decide) _) rfl 8 (by decide) (hts _ kX9_remember_0) rfl dX9_remember_30 ?_
    obtain ⟨r2, e3, h⟩ := tm_bd_some h
    refine tm_backI (r0 := r2) (M0 := M) (fun _ q => q) (tm_callV (As := [.int (M 0 8)]) (rest := [.ref (g.2.2 + 49)]) ⟨hx, hb, hml, hown, hts⟩ hK hG hP hS (c_X9_pastPlace l g A L hD hF M (M 0 8) r2 e3) (cwV 1 hts gX9_remember_X9_pastPlace rfl rfl rfl (by decide +kernel) ⟨Nat.le_of_ble_eq_true rfl, Nat.le_of_ble_eq_true rfl⟩) (tm_recv hK hP (hF 0 (by decide)) (ci := 8) rfl (tm_mkX9 (by decide) _)) rfl hl.1 (lv_room (Nat.le_of_ble_eq_true rfl)) dX9_remember_33 ⟨Nat.zero_le _, Nat.zero_le _⟩) hS (fun H locs hP hS => ?_)
    obtain ⟨x4, e5, h⟩ := tm_bd_some h
    refine tm_aald hx hb hK hP 4 (hF 49 (by decide)) (tm_mkY (n := 8) (by decide) (by decide)) rfl e5 dX9_remember_36 ?_
    refine lv_aload_n hx hb dX9_remember_37 rfl (lv_at hl 0 rfl) ?_
    refine tm_get (C := RX9) (T := TX9) (N := 15) (v := .ref (g.2.2 + 20)) hx hb hts nX9_remember_X9 hown hK hP (hF 0 (by decide)) (tm_mkX9 (by decide) _) rfl 3 (by decide) (hts _ kX9_remember_2) rfl dX9_remember_38 ?_
    obtain ⟨g9, h⟩ := tm_gd_some h
    obtain ⟨M8, e7, h⟩ := tm_bd_some h
    refine tm_backV (M0 := M8) (fun _ q => q) (tm_callV (As := [.ref (g.2.2 + 20)]) (rest := []) ⟨hx, hb, hml, hown, hts⟩ hK hG hP hS (c_X8_copy l g A L hD hF M x4 20 M8 e7) (cwV 1 hts gX9_remember_X8_copy rfl rfl rfl (by decide +kernel) ⟨Nat.le_of_ble_eq_true rfl, Nat.le_of_ble_eq_true rfl⟩) (tm_recv hK hP (hF _ (tm_lt g9)) (ci := 7) rfl (tm_mkX8 g9 _)) rfl hl.1 (lv_room (Nat.le_of_ble_eq_true rfl)) dX9_remember_41 ⟨Nat.zero_le _, Nat.zero_le _⟩) hS (fun H locs hP hS => ?_)
    refine lv_aload_n hx hb dX9_remember_44 rfl (lv_at hl 0 rfl) ?_
    refine lv_dup hx hb dX9_remember_45 rfl ?_
    refine tm_get (C := RX9) (T := TX9) (N := 15) (v := .int (M8 0 8)) hx hb hts nX9_remember_X9 hown hK hP (hF 0 (by decide)) (tm_mkX9 (by decide) _) rfl 8 (by decide) (hts _ kX9_remember_0) rfl dX9_remember_46 ?_
    refine lv_iconst (v := 1) hx hb dX9_remember_49 (by decide) ?_
    refine lv_iadd hx hb dX9_remember_50 ?_
    obtain ⟨M10, e11, h⟩ := tm_bd_some h
    refine tm_put (C := RX9) (T := TX9) (N := 15) (ty := .int) (x := (M8 0 8) + 1) hx hb hts nX9_remember_X9 tyX9 tyX9_ok nmX9 hown hK hP hD hS (hF 0 (by decide)) (tm_mkX9 (by decide)) rfl 8 (by decide) (hts _ kX9_remember_0) rfl (by decide +kernel) rfl rfl (Nat.le_of_ble_eq_true rfl) rfl (Option.some.inj e11) dX9_remember_51 (fun H locs hP hS => ?_)
    exact tm_vret C0 (Option.some.inj h) hP hS dX9_remember_54
  · rw [if_neg c1] at h
    refine lv_aload_n hx hb dX9_remember_9 rfl (lv_at hl 0 rfl) ?_
    refine lv_aload_n hx hb dX9_remember_10 rfl (lv_at hl 0 rfl) ?_
    refine lv_iconst (v := 1) hx hb dX9_remember_11 (by decide) ?_
    obtain ⟨r12, e13, h⟩ := tm_bd_some h
    refine tm_backI (r0 := r12) (M0 := M) (fun _ q => q) (tm_callV (As := [.int 1]) (rest := [.ref (g.2.2 + 0)]) ⟨hx, hb, hml, hown, hts⟩ hK hG hP hS (c_X9_pastPlace l g A L hD hF M 1 r12 e13) (cwV 1 hts gX9_remember_X9_pastPlace rfl rfl rfl (by decide +kernel) ⟨Nat.le_of_ble_eq_true rfl, Nat.le_of_ble_eq_true rfl⟩) (tm_recv hK hP (hF 0 (by decide)) (ci := 8) rfl (tm_mkX9 (by decide) _)) rfl hl.1 (lv_room (Nat.le_of_ble_eq_true rfl)) dX9_remember_12 ⟨Nat.zero_le _, Nat.zero_le _⟩) hS (fun H locs hP hS => ?_)
    obtain ⟨M14, e15, h⟩ := tm_bd_some h
    refine tm_put (C := RX9) (T := TX9) (N := 15) (ty := .int) (x := r12) hx hb hts nX9_remember_X9 tyX9 tyX9_ok nmX9 hown hK hP hD hS (hF 0 (by decide)) (tm_mkX9 (by decide)) rfl 7 (by decide) (hts _ kX9_remember_3) rfl (by decide +kernel) rfl rfl (Nat.le_of_ble_eq_true rfl) rfl (Option.some.inj e15) dX9_remember_15 (fun H locs hP hS => ?_)
    refine lv_aload_n hx hb dX9_remember_18 rfl (lv_at hl 0 rfl) ?_
    refine lv_bipush (v := 7) hx hb dX9_remember_19 (by decide) ?_
    obtain ⟨M16, e17, h⟩ := tm_bd_some h
    refine tm_put (C := RX9) (T := TX9) (N := 15) (ty := .int) (x := 7) hx hb hts nX9_remember_X9 tyX9 tyX9_ok nmX9 hown hK hP hD hS (hF 0 (by decide)) (tm_mkX9 (by decide)) rfl 8 (by decide) (hts _ kX9_remember_0) rfl (by decide +kernel) rfl rfl (Nat.le_of_ble_eq_true rfl) rfl (Option.some.inj e17) dX9_remember_21 (fun H locs hP hS => ?_)
    refine lv_aload_n hx hb dX9_remember_24 rfl (lv_at hl 0 rfl) ?_
    refine tm_get (C := RX9) (T := TX9) (N := 15) (v := .ref (g.2.2 + 49)) hx hb hts nX9_remember_X9 hown hK hP (hF 0 (by decide)) (tm_mkX9 (by decide) _) rfl 6 (by decide) (hts _ kX9_remember_1) rfl dX9_remember_25 ?_
    refine lv_aload_n hx hb dX9_remember_28 rfl (lv_at hl 0 rfl) ?_
    refine lv_aload_n hx hb dX9_remember_29 rfl (lv_at hl 0 rfl) ?_
    refine tm_get (C := RX9) (T := TX9) (N := 15) (v := .int (M16 0 8)) hx hb hts nX9_remember_X9 hown hK hP (hF 0 (by decide)) (tm_mkX9 (by decide) _) rfl 8 (by decide) (hts _ kX9_remember_0) rfl dX9_remember_30 ?_
    obtain ⟨r18, e19, h⟩ := tm_bd_some h
    refine tm_backI (r0 := r18) (M0 := M16) (fun _ q => q) (tm_callV (As := [.int (M16 0 8)]) (rest := [.ref (g.2.2 + 49)]) ⟨hx, hb, hml, hown, hts⟩ hK hG hP hS (c_X9_pastPlace l g A L hD hF M16 (M16 0 8) r18 e19) (cwV 1 hts gX9_remember_X9_pastPlace rfl rfl rfl (by decide +kernel) ⟨Nat.le_of_ble_eq_true rfl, Nat.le_of_ble_eq_true rfl⟩) (tm_recv hK hP (hF 0 (by decide)) (ci := 8) rfl (tm_mkX9 (by decide) _)) rfl hl.1 (lv_room (Nat.le_of_ble_eq_true rfl)) dX9_remember_33 ⟨Nat.zero_le _, Nat.zero_le _⟩) hS (fun H locs hP hS => ?_)
    obtain ⟨x20, e21, h⟩ := tm_bd_some h
    refine tm_aald hx hb hK hP 4 (hF 49 (by decide)) (tm_mkY (n := 8) (by decide) (by decide)) rfl e21 dX9_remember_36 ?_
    refine lv_aload_n hx hb dX9_remember_37 rfl (lv_at hl 0 rfl) ?_
    refine tm_get (C := RX9) (T := TX9) (N := 15) (v := .ref (g.2.2 + 20)) hx hb hts nX9_remember_X9 hown hK hP (hF 0 (by decide)) (tm_mkX9 (by decide) _) rfl 3 (by decide) (hts _ kX9_remember_2) rfl dX9_remember_38 ?_
    obtain ⟨g25, h⟩ := tm_gd_some h
    obtain ⟨M24, e23, h⟩ := tm_bd_some h
    refine tm_backV (M0 := M24) (fun _ q => q) (tm_callV (As := [.ref (g.2.2 + 20)]) (rest := []) ⟨hx, hb, hml, hown, hts⟩ hK hG hP hS (c_X8_copy l g A L hD hF M16 x20 20 M24 e23) (cwV 1 hts gX9_remember_X8_copy rfl rfl rfl (by decide +kernel) ⟨Nat.le_of_ble_eq_true rfl, Nat.le_of_ble_eq_true rfl⟩) (tm_recv hK hP (hF _ (tm_lt g25)) (ci := 7) rfl (tm_mkX8 g25 _)) rfl hl.1 (lv_room (Nat.le_of_ble_eq_true rfl)) dX9_remember_41 ⟨Nat.zero_le _, Nat.zero_le _⟩) hS (fun H locs hP hS => ?_)
    refine lv_aload_n hx hb dX9_remember_44 rfl (lv_at hl 0 rfl) ?_
    refine lv_dup hx hb dX9_remember_45 rfl ?_
    refine tm_get (C := RX9) (T := TX9) (N := 15) (v := .int (M24 0 8)) hx hb hts nX9_remember_X9 hown hK hP (hF 0 (by decide)) (tm_mkX9 (by decide) _) rfl 8 (by decide) (hts _ kX9_remember_0) rfl dX9_remember_46 ?_
    refine lv_iconst (v := 1) hx hb dX9_remember_49 (by decide) ?_
    refine lv_iadd hx hb dX9_remember_50 ?_
    obtain ⟨M26, e27, h⟩ := tm_bd_some h
    refine tm_put (C := RX9) (T := TX9) (N := 15) (ty := .int) (x := (M24 0 8) + 1) hx hb hts nX9_remember_X9 tyX9 tyX9_ok nmX9 hown hK hP hD hS (hF 0 (by decide)) (tm_mkX9 (by decide)) rfl 8 (by decide) (hts _ kX9_remember_0) rfl (by decide +kernel) rfl rfl (Nat.le_of_ble_eq_true rfl) rfl (Option.some.inj e27) dX9_remember_51 (fun H locs hP hS => ?_)
    exact tm_vret C0 (Option.some.inj h) hP hS dX9_remember_54
/-! X9_day -/
theorem nX9_day_X9 : ∀ w ∈ wsX90, w ∈ wsX9_day := by decide +kernel
theorem kX9_day_0 : Cond.fieldLink RX9 43 "QuarrelDesk" "now" "LQuarrelDesk$Year;" ∈ wsX9_day := by decide +kernel
theorem nX9_day_X8 : ∀ w ∈ wsX80, w ∈ wsX9_day := by decide +kernel
theorem kX9_day_1 : Cond.fieldLink RX9 133 "QuarrelDesk$Year" "day" "I" ∈ wsX9_day := by decide +kernel
def f_X9_day (M : tm_M) : Option (Int32 × tm_M) :=
  if (M 20 3) < 999 then
    (f_X9_remember M).bind fun M4 =>
    (f_X8_pass M4 20).bind fun r5 =>
    some (r5.1, r5.2)
  else
    some ((-5), M)
set_option maxHeartbeats 4000000 in
set_option maxRecDepth 100000 in
theorem c_X9_day (l : Launch) (g : tm_G) (A : Nat → Prop) (L : List Nat) (hD : ∀ M, va_D A (tm_ws g L M)) (hF : ∀ o, tm_all o → o ∈ L) (M : tm_M) (R0 : Int32 × tm_M) (h : f_X9_day M = some R0) : Met l yX9_day wsX9_day { frames := 5, cells := 0, slots := 0, locals := 110 } (tm_PC g A L M [.ref (g.2.2 + 0)]) (tm_QI g A L R0) 0 0 A := by
  refine tm_start (cc := cX9_day) (nL := 1) (ret := (some .int)) (F := tm_all) (plainFor_of_name (by decide)) rfl (Nat.le_of_ble_eq_true rfl) hD hF (fun p e s m args below meth c ls C0 hP hS hl => ?_)
  have hl : lv_has ls 1 [(0, .ref (g.2.2 + 0))] := hl
  have C0 : tm_C p m c cX9_day 1 s args wsX9_day RX9 meth (some .int) g A L tm_all := C0
  obtain ⟨⟨hx, hb, hml, hown, hts⟩, hr, hlk, hK, hD, hG, hF⟩ := id C0
  unfold f_X9_day at h
  refine lv_aload_n hx hb dX9_day_0 rfl (lv_at hl 0 rfl) ?_
  refine tm_get (C := RX9) (T := TX9) (N := 15) (v := .ref (g.2.2 + 20)) hx hb hts nX9_day_X9 hown hK hP (hF 0 (by decide)) (tm_mkX9 (by decide) _) rfl 3 (by decide) (hts _ kX9_day_0) rfl dX9_day_1 ?_
  refine tm_get (C := RX8) (T := TX8) (N := 4) (v := .int (M 20 3)) hx hb hts nX9_day_X8 hown hK hP (hF 20 (by decide)) (tm_mkX8 (by decide) _) rfl 3 (by decide) (hts _ kX9_day_1) rfl dX9_day_4 ?_
  refine lv_sipush (v := 999) hx hb dX9_day_7 (by decide) ?_
  refine lv_icmp_lt (tgt := 16) hx hb dX9_day_10 (by decide) (fun c1 => ?_) (fun c1 => ?_)
  · rw [if_pos c1] at h
    refine lv_aload_n hx hb dX9_day_16 rfl (lv_at hl 0 rfl) ?_
    obtain ⟨M4, e3, h⟩ := tm_bd_some h
    refine tm_backV (M0 := M4) (fun _ q => q) (tm_callV (As := []) (rest := []) ⟨hx, hb, hml, hown, hts⟩ hK hG hP hS (c_X9_remember l g A L hD hF M M4 e3) (cwV 0 hts gX9_day_X9_remember rfl rfl rfl (by decide +kernel) ⟨Nat.le_of_ble_eq_true rfl, Nat.le_of_ble_eq_true rfl⟩) (tm_recv hK hP (hF 0 (by decide)) (ci := 8) rfl (tm_mkX9 (by decide) _)) rfl hl.1 (lv_room (Nat.le_of_ble_eq_true rfl)) dX9_day_17 ⟨Nat.zero_le _, Nat.zero_le _⟩) hS (fun H locs hP hS => ?_)
    refine lv_aload_n hx hb dX9_day_20 rfl (lv_at hl 0 rfl) ?_
    refine tm_get (C := RX9) (T := TX9) (N := 15) (v := .ref (g.2.2 + 20)) hx hb hts nX9_day_X9 hown hK hP (hF 0 (by decide)) (tm_mkX9 (by decide) _) rfl 3 (by decide) (hts _ kX9_day_0) rfl dX9_day_21 ?_
    obtain ⟨r5, e6, h⟩ := tm_bd_some h
    refine tm_backI (r0 := r5.1) (M0 := r5.2) (fun _ q => q) (tm_callV (As := []) (rest := []) ⟨hx, hb, hml, hown, hts⟩ hK hG hP hS (c_X8_pass l g A L hD hF M4 20 r5 e6) (cwV 0 hts gX9_day_X8_pass rfl rfl rfl (by decide +kernel) ⟨Nat.le_of_ble_eq_true rfl, Nat.le_of_ble_eq_true rfl⟩) (tm_recv hK hP (hF 20 (by decide)) (ci := 7) rfl (tm_mkX8 (by decide) _)) rfl hl.1 (lv_room (Nat.le_of_ble_eq_true rfl)) dX9_day_24 ⟨Nat.zero_le _, Nat.zero_le _⟩) hS (fun H locs hP hS => ?_)
    exact tm_iret C0 (Option.some.inj h) hP hS dX9_day_27
  · rw [if_neg c1] at h
    refine lv_bipush (v := (-5)) hx hb dX9_day_13 (by decide) ?_
    exact tm_iret C0 (Option.some.inj h) hP hS dX9_day_15
/-! X9_kiss -/
theorem nX9_kiss_X9 : ∀ w ∈ wsX90, w ∈ wsX9_kiss := by decide +kernel
theorem kX9_kiss_0 : Cond.fieldLink RX9 43 "QuarrelDesk" "now" "LQuarrelDesk$Year;" ∈ wsX9_kiss := by decide +kernel
theorem nX9_kiss_X8 : ∀ w ∈ wsX80, w ∈ wsX9_kiss := by decide +kernel
theorem kX9_kiss_1 : Cond.fieldLink RX9 118 "QuarrelDesk$Year" "lives" "[LQuarrelDesk$Life;" ∈ wsX9_kiss := by decide +kernel
theorem nX9_kiss_X1 : ∀ w ∈ wsX10, w ∈ wsX9_kiss := by decide +kernel
theorem kX9_kiss_2 : Cond.fieldLink RX9 159 "QuarrelDesk$Life" "strain" "I" ∈ wsX9_kiss := by decide +kernel
def f_X9_kiss (M : tm_M) (p1 : Int32) : Option (Int32 × tm_M) :=
  (f_X9_unknown M p1).bind fun r1 =>
  if r1 = 0 then
    (f_X9_remember M).bind fun M6 =>
    (tm_rdr 22 6 p1).bind fun x7 =>
    tm_gd (tm_shp x7 = 0) <|
    (f_X1_beKissed M6 x7).bind fun M11 =>
    some (M11 x7 2, M11)
  else
    some ((-2), M)
set_option maxHeartbeats 4000000 in
set_option maxRecDepth 100000 in
theorem c_X9_kiss (l : Launch) (g : tm_G) (A : Nat → Prop) (L : List Nat) (hD : ∀ M, va_D A (tm_ws g L M)) (hF : ∀ o, tm_all o → o ∈ L) (M : tm_M) (p1 : Int32) (R0 : Int32 × tm_M) (h : f_X9_kiss M p1 = some R0) : Met l yX9_kiss wsX9_kiss { frames := 3, cells := 0, slots := 0, locals := 63 } (tm_PC g A L M [.ref (g.2.2 + 0), .int p1]) (tm_QI g A L R0) 0 0 A := by
  refine tm_start (cc := cX9_kiss) (nL := 3) (ret := (some .int)) (F := tm_all) (plainFor_of_name (by decide)) rfl (Nat.le_of_ble_eq_true rfl) hD hF (fun p e s m args below meth c ls C0 hP hS hl => ?_)
  have hl : lv_has ls 3 [(0, .ref (g.2.2 + 0)), (1, .int p1)] := hl
  have C0 : tm_C p m c cX9_kiss 3 s args wsX9_kiss RX9 meth (some .int) g A L tm_all := C0
  obtain ⟨⟨hx, hb, hml, hown, hts⟩, hr, hlk, hK, hD, hG, hF⟩ := id C0
  unfold f_X9_kiss at h
  refine lv_aload_n hx hb dX9_kiss_0 rfl (lv_at hl 0 rfl) ?_
  refine lv_iload_n hx hb dX9_kiss_1 rfl (lv_at hl 1 rfl) ?_
  obtain ⟨r1, e2, h⟩ := tm_bd_some h
  refine tm_backI (r0 := r1) (M0 := M) (fun _ q => q) (tm_callV (As := [.int p1]) (rest := []) ⟨hx, hb, hml, hown, hts⟩ hK hG hP hS (c_X9_unknown l g A L hD hF M p1 r1 e2) (cwV 1 hts gX9_kiss_X9_unknown rfl rfl rfl (by decide +kernel) ⟨Nat.le_of_ble_eq_true rfl, Nat.le_of_ble_eq_true rfl⟩) (tm_recv hK hP (hF 0 (by decide)) (ci := 8) rfl (tm_mkX9 (by decide) _)) rfl hl.1 (lv_room (Nat.le_of_ble_eq_true rfl)) dX9_kiss_2 ⟨Nat.zero_le _, Nat.zero_le _⟩) hS (fun H locs hP hS => ?_)
  refine lv_if_eq (tgt := 11) hx hb dX9_kiss_5 (by decide) (fun c3 => ?_) (fun c3 => ?_)
  · rw [if_pos c3] at h
    refine lv_aload_n hx hb dX9_kiss_11 rfl (lv_at hl 0 rfl) ?_
    obtain ⟨M6, e5, h⟩ := tm_bd_some h
    refine tm_backV (M0 := M6) (fun _ q => q) (tm_callV (As := []) (rest := []) ⟨hx, hb, hml, hown, hts⟩ hK hG hP hS (c_X9_remember l g A L hD hF M M6 e5) (cwV 0 hts gX9_kiss_X9_remember rfl rfl rfl (by decide +kernel) ⟨Nat.le_of_ble_eq_true rfl, Nat.le_of_ble_eq_true rfl⟩) (tm_recv hK hP (hF 0 (by decide)) (ci := 8) rfl (tm_mkX9 (by decide) _)) rfl hl.1 (lv_room (Nat.le_of_ble_eq_true rfl)) dX9_kiss_12 ⟨Nat.zero_le _, Nat.zero_le _⟩) hS (fun H locs hP hS => ?_)
    refine lv_aload_n hx hb dX9_kiss_15 rfl (lv_at hl 0 rfl) ?_
    refine tm_get (C := RX9) (T := TX9) (N := 15) (v := .ref (g.2.2 + 20)) hx hb hts nX9_kiss_X9 hown hK hP (hF 0 (by decide)) (tm_mkX9 (by decide) _) rfl 3 (by decide) (hts _ kX9_kiss_0) rfl dX9_kiss_16 ?_
    refine tm_get (C := RX8) (T := TX8) (N := 4) (v := .ref (g.2.2 + 22)) hx hb hts nX9_kiss_X8 hown hK hP (hF 20 (by decide)) (tm_mkX8 (by decide) _) rfl 1 (by decide) (hts _ kX9_kiss_1) rfl dX9_kiss_19 ?_
    refine lv_iload_n hx hb dX9_kiss_22 rfl (lv_at hl 1 rfl) ?_
    obtain ⟨x7, e8, h⟩ := tm_bd_some h
    refine tm_aald hx hb hK hP 3 (hF 22 (by decide)) (tm_mkL (by decide)) rfl e8 dX9_kiss_23 ?_
    refine lv_astore_n (lv' := [(2, .ref (g.2.2 + x7)), (0, .ref (g.2.2 + 0)), (1, .int p1)]) hx hb dX9_kiss_24 rfl hl (by decide) rfl (fun ls hl => ?_)
    refine lv_aload_n hx hb dX9_kiss_25 rfl (lv_at hl 0 rfl) ?_
    obtain ⟨g12, h⟩ := tm_gd_some h
    obtain ⟨M11, e10, h⟩ := tm_bd_some h
    refine tm_backV (M0 := M11) (fun _ q => q) (tm_callV (As := []) (rest := []) ⟨hx, hb, hml, hown, hts⟩ hK hG hP hS (c_X1_beKissed l g A L hD hF M6 x7 M11 e10) (cwV 0 hts gX9_kiss_X1_beKissed rfl rfl rfl (by decide +kernel) ⟨Nat.le_of_ble_eq_true rfl, Nat.le_of_ble_eq_true rfl⟩) (tm_recv hK hP (hF _ (tm_lt g12)) (ci := 0) rfl (tm_mkX1 g12 _)) rfl hl.1 (lv_room (Nat.le_of_ble_eq_true rfl)) dX9_kiss_26 ⟨Nat.zero_le _, Nat.zero_le _⟩) hS (fun H locs hP hS => ?_)
    refine lv_aload_n hx hb dX9_kiss_29 rfl (lv_at hl 0 rfl) ?_
    refine tm_get (C := RX1) (T := TX1) (N := 12) (v := .int (M11 x7 2)) hx hb hts nX9_kiss_X1 hown hK hP (hF _ (tm_lt g12)) (tm_mkX1 g12 _) rfl 2 (by decide) (hts _ kX9_kiss_2) rfl dX9_kiss_30 ?_
    exact tm_iret C0 (Option.some.inj h) hP hS dX9_kiss_33
  · rw [if_neg c3] at h
    refine lv_bipush (v := (-2)) hx hb dX9_kiss_8 (by decide) ?_
    exact tm_iret C0 (Option.some.inj h) hP hS dX9_kiss_10
/-! X9_mother -/
theorem nX9_mother_X9 : ∀ w ∈ wsX90, w ∈ wsX9_mother := by decide +kernel
theorem kX9_mother_0 : Cond.fieldLink RX9 43 "QuarrelDesk" "now" "LQuarrelDesk$Year;" ∈ wsX9_mother := by decide +kernel
theorem nX9_mother_X8 : ∀ w ∈ wsX80, w ∈ wsX9_mother := by decide +kernel
theorem kX9_mother_1 : Cond.fieldLink RX9 118 "QuarrelDesk$Year" "lives" "[LQuarrelDesk$Life;" ∈ wsX9_mother := by decide +kernel
theorem nX9_mother_X1 : ∀ w ∈ wsX10, w ∈ wsX9_mother := by decide +kernel
theorem kX9_mother_2 : Cond.fieldLink RX9 159 "QuarrelDesk$Life" "strain" "I" ∈ wsX9_mother := by decide +kernel
def f_X9_mother (M : tm_M) (p1 : Int32) : Option (Int32 × tm_M) :=
  (f_X9_unknown M p1).bind fun r1 =>
  if r1 = 0 then
    (f_X9_remember M).bind fun M6 =>
    (tm_rdr 22 6 p1).bind fun x7 =>
    tm_gd (tm_shp x7 = 0) <|
    (f_X1_beVisited M6 x7).bind fun M11 =>
    some (M11 x7 2, M11)
  else
    some ((-2), M)
set_option maxHeartbeats 4000000 in
set_option maxRecDepth 100000 in
theorem c_X9_mother (l : Launch) (g : tm_G) (A : Nat → Prop) (L : List Nat) (hD : ∀ M, va_D A (tm_ws g L M)) (hF : ∀ o, tm_all o → o ∈ L) (M : tm_M) (p1 : Int32) (R0 : Int32 × tm_M) (h : f_X9_mother M p1 = some R0) : Met l yX9_mother wsX9_mother { frames := 3, cells := 0, slots := 0, locals := 63 } (tm_PC g A L M [.ref (g.2.2 + 0), .int p1]) (tm_QI g A L R0) 0 0 A := by
  refine tm_start (cc := cX9_mother) (nL := 3) (ret := (some .int)) (F := tm_all) (plainFor_of_name (by decide)) rfl (Nat.le_of_ble_eq_true rfl) hD hF (fun p e s m args below meth c ls C0 hP hS hl => ?_)
  have hl : lv_has ls 3 [(0, .ref (g.2.2 + 0)), (1, .int p1)] := hl
  have C0 : tm_C p m c cX9_mother 3 s args wsX9_mother RX9 meth (some .int) g A L tm_all := C0
  obtain ⟨⟨hx, hb, hml, hown, hts⟩, hr, hlk, hK, hD, hG, hF⟩ := id C0
  unfold f_X9_mother at h
  refine lv_aload_n hx hb dX9_mother_0 rfl (lv_at hl 0 rfl) ?_
  refine lv_iload_n hx hb dX9_mother_1 rfl (lv_at hl 1 rfl) ?_
  obtain ⟨r1, e2, h⟩ := tm_bd_some h
  refine tm_backI (r0 := r1) (M0 := M) (fun _ q => q) (tm_callV (As := [.int p1]) (rest := []) ⟨hx, hb, hml, hown, hts⟩ hK hG hP hS (c_X9_unknown l g A L hD hF M p1 r1 e2) (cwV 1 hts gX9_mother_X9_unknown rfl rfl rfl (by decide +kernel) ⟨Nat.le_of_ble_eq_true rfl, Nat.le_of_ble_eq_true rfl⟩) (tm_recv hK hP (hF 0 (by decide)) (ci := 8) rfl (tm_mkX9 (by decide) _)) rfl hl.1 (lv_room (Nat.le_of_ble_eq_true rfl)) dX9_mother_2 ⟨Nat.zero_le _, Nat.zero_le _⟩) hS (fun H locs hP hS => ?_)
  refine lv_if_eq (tgt := 11) hx hb dX9_mother_5 (by decide) (fun c3 => ?_) (fun c3 => ?_)
  · rw [if_pos c3] at h
    refine lv_aload_n hx hb dX9_mother_11 rfl (lv_at hl 0 rfl) ?_
    obtain ⟨M6, e5, h⟩ := tm_bd_some h
    refine tm_backV (M0 := M6) (fun _ q => q) (tm_callV (As := []) (rest := []) ⟨hx, hb, hml, hown, hts⟩ hK hG hP hS (c_X9_remember l g A L hD hF M M6 e5) (cwV 0 hts gX9_mother_X9_remember rfl rfl rfl (by decide +kernel) ⟨Nat.le_of_ble_eq_true rfl, Nat.le_of_ble_eq_true rfl⟩) (tm_recv hK hP (hF 0 (by decide)) (ci := 8) rfl (tm_mkX9 (by decide) _)) rfl hl.1 (lv_room (Nat.le_of_ble_eq_true rfl)) dX9_mother_12 ⟨Nat.zero_le _, Nat.zero_le _⟩) hS (fun H locs hP hS => ?_)
    refine lv_aload_n hx hb dX9_mother_15 rfl (lv_at hl 0 rfl) ?_
    refine tm_get (C := RX9) (T := TX9) (N := 15) (v := .ref (g.2.2 + 20)) hx hb hts nX9_mother_X9 hown hK hP (hF 0 (by decide)) (tm_mkX9 (by decide) _) rfl 3 (by decide) (hts _ kX9_mother_0) rfl dX9_mother_16 ?_
    refine tm_get (C := RX8) (T := TX8) (N := 4) (v := .ref (g.2.2 + 22)) hx hb hts nX9_mother_X8 hown hK hP (hF 20 (by decide)) (tm_mkX8 (by decide) _) rfl 1 (by decide) (hts _ kX9_mother_1) rfl dX9_mother_19 ?_
    refine lv_iload_n hx hb dX9_mother_22 rfl (lv_at hl 1 rfl) ?_
    obtain ⟨x7, e8, h⟩ := tm_bd_some h
    refine tm_aald hx hb hK hP 3 (hF 22 (by decide)) (tm_mkL (by decide)) rfl e8 dX9_mother_23 ?_
    refine lv_astore_n (lv' := [(2, .ref (g.2.2 + x7)), (0, .ref (g.2.2 + 0)), (1, .int p1)]) hx hb dX9_mother_24 rfl hl (by decide) rfl (fun ls hl => ?_)
    refine lv_aload_n hx hb dX9_mother_25 rfl (lv_at hl 0 rfl) ?_
    obtain ⟨g12, h⟩ := tm_gd_some h
    obtain ⟨M11, e10, h⟩ := tm_bd_some h
    refine tm_backV (M0 := M11) (fun _ q => q) (tm_callV (As := []) (rest := []) ⟨hx, hb, hml, hown, hts⟩ hK hG hP hS (c_X1_beVisited l g A L hD hF M6 x7 M11 e10) (cwV 0 hts gX9_mother_X1_beVisited rfl rfl rfl (by decide +kernel) ⟨Nat.le_of_ble_eq_true rfl, Nat.le_of_ble_eq_true rfl⟩) (tm_recv hK hP (hF _ (tm_lt g12)) (ci := 0) rfl (tm_mkX1 g12 _)) rfl hl.1 (lv_room (Nat.le_of_ble_eq_true rfl)) dX9_mother_26 ⟨Nat.zero_le _, Nat.zero_le _⟩) hS (fun H locs hP hS => ?_)
    refine lv_aload_n hx hb dX9_mother_29 rfl (lv_at hl 0 rfl) ?_
    refine tm_get (C := RX1) (T := TX1) (N := 12) (v := .int (M11 x7 2)) hx hb hts nX9_mother_X1 hown hK hP (hF _ (tm_lt g12)) (tm_mkX1 g12 _) rfl 2 (by decide) (hts _ kX9_mother_2) rfl dX9_mother_30 ?_
    exact tm_iret C0 (Option.some.inj h) hP hS dX9_mother_33
  · rw [if_neg c3] at h
    refine lv_bipush (v := (-2)) hx hb dX9_mother_8 (by decide) ?_
    exact tm_iret C0 (Option.some.inj h) hP hS dX9_mother_10
