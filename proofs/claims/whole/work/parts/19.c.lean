/-! X7_sortAt -/
def f_X7_sortAt (M : tm_M) (p1 : Int32) : Option Int32 :=
  (f_X7_letterAt M p1).bind fun r1 =>
  if r1 < 97 then
    if r1 < 48 then
      some 0
    else
      if 57 < r1 then
        some 0
      else
        some 2
  else
    if 122 < r1 then
      if r1 < 48 then
        some 0
      else
        if 57 < r1 then
          some 0
        else
          some 2
    else
      some 1
set_option maxHeartbeats 4000000 in
set_option maxRecDepth 100000 in
theorem c_X7_sortAt (l : Launch) (g : tm_G) (A : Nat → Prop) (L : List Nat) (hD : ∀ M, va_D A (tm_ws g L M)) (hF : ∀ o, tm_all o → o ∈ L) (M : tm_M) (p1 : Int32) (r0 : Int32) (h : f_X7_sortAt M p1 = some r0) : Met l yX7_sortAt wsX7_sortAt { frames := 1, cells := 0, slots := 0, locals := 21 } (tm_PC g A L M [.ref (g.2.2 + 2), .int p1]) (tm_QI g A L (r0, M)) 0 0 A := by
  refine tm_start (cc := cX7_sortAt) (nL := 3) (ret := (some .int)) (F := tm_all) (plainFor_of_name (by decide)) rfl (Nat.le_of_ble_eq_true rfl) hD hF (fun p e s m args below meth c ls C0 hP hS hl => ?_)
  have hl : lv_has ls 3 [(0, .ref (g.2.2 + 2)), (1, .int p1)] := hl
  have C0 : tm_C p m c cX7_sortAt 3 s args wsX7_sortAt RX7 meth (some .int) g A L tm_all := C0
  obtain ⟨⟨hx, hb, hml, hown, hts⟩, hr, hlk, hK, hD, hG, hF⟩ := id C0
  unfold f_X7_sortAt at h
  refine lv_aload_n hx hb dX7_sortAt_0 rfl (lv_at hl 0 rfl) ?_
  refine lv_iload_n hx hb dX7_sortAt_1 rfl (lv_at hl 1 rfl) ?_
  obtain ⟨r1, e2, h⟩ := tm_bd_some h
  refine tm_backI (r0 := r1) (M0 := M) (fun _ q => q) (tm_callV (As := [.int p1]) (rest := []) ⟨hx, hb, hml, hown, hts⟩ hK hG hP hS (c_X7_letterAt l g A L hD hF M p1 r1 e2) (cwV 1 hts gX7_sortAt_X7_letterAt rfl rfl rfl (by decide +kernel) ⟨Nat.le_of_ble_eq_true rfl, Nat.le_of_ble_eq_true rfl⟩) (tm_recv hK hP (hF 2 (by decide)) (ci := 6) rfl (tm_mkX7 (by decide) _)) rfl hl.1 (lv_room (Nat.le_of_ble_eq_true rfl)) dX7_sortAt_2 ⟨Nat.zero_le _, Nat.zero_le _⟩) hS (fun H locs hP hS => ?_)
  refine lv_istore_n (lv' := [(2, .int r1), (0, .ref (g.2.2 + 2)), (1, .int p1)]) hx hb dX7_sortAt_5 rfl hl (by decide) rfl (fun ls hl => ?_)
  refine lv_iload_n hx hb dX7_sortAt_6 rfl (lv_at hl 0 rfl) ?_
  refine lv_bipush (v := 97) hx hb dX7_sortAt_7 (by decide) ?_
  refine lv_icmp_lt (tgt := 20) hx hb dX7_sortAt_9 (by decide) (fun c3 => ?_) (fun c3 => ?_)
  · rw [if_pos c3] at h
    refine lv_iload_n hx hb dX7_sortAt_20 rfl (lv_at hl 0 rfl) ?_
    refine lv_bipush (v := 48) hx hb dX7_sortAt_21 (by decide) ?_
    refine lv_icmp_lt (tgt := 36) hx hb dX7_sortAt_23 (by decide) (fun c4 => ?_) (fun c4 => ?_)
    · rw [if_pos c4] at h
      refine lv_iconst (v := 0) hx hb dX7_sortAt_36 (by decide) ?_
      exact tm_iret C0 (by rw [Option.some.inj h]) hP hS dX7_sortAt_37
    · rw [if_neg c4] at h
      refine lv_iload_n hx hb dX7_sortAt_26 rfl (lv_at hl 0 rfl) ?_
      refine lv_bipush (v := 57) hx hb dX7_sortAt_27 (by decide) ?_
      refine lv_icmp_gt (tgt := 36) hx hb dX7_sortAt_29 (by decide) (fun c5 => ?_) (fun c5 => ?_)
      · rw [if_pos c5] at h
        refine lv_iconst (v := 0) hx hb dX7_sortAt_36 (by decide) ?_
        exact tm_iret C0 (by rw [Option.some.inj h]) hP hS dX7_sortAt_37
      · rw [if_neg c5] at h
        refine lv_iconst (v := 2) hx hb dX7_sortAt_32 (by decide) ?_
        refine lv_goto (tgt := 37) hx hb dX7_sortAt_33 (by decide) ?_
        exact tm_iret C0 (by rw [Option.some.inj h]) hP hS dX7_sortAt_37
  · rw [if_neg c3] at h
    refine lv_iload_n hx hb dX7_sortAt_12 rfl (lv_at hl 0 rfl) ?_
    refine lv_bipush (v := 122) hx hb dX7_sortAt_13 (by decide) ?_
    refine lv_icmp_gt (tgt := 20) hx hb dX7_sortAt_15 (by decide) (fun c6 => ?_) (fun c6 => ?_)
    · rw [if_pos c6] at h
      refine lv_iload_n hx hb dX7_sortAt_20 rfl (lv_at hl 0 rfl) ?_
      refine lv_bipush (v := 48) hx hb dX7_sortAt_21 (by decide) ?_
      refine lv_icmp_lt (tgt := 36) hx hb dX7_sortAt_23 (by decide) (fun c7 => ?_) (fun c7 => ?_)
      · rw [if_pos c7] at h
        refine lv_iconst (v := 0) hx hb dX7_sortAt_36 (by decide) ?_
        exact tm_iret C0 (by rw [Option.some.inj h]) hP hS dX7_sortAt_37
      · rw [if_neg c7] at h
        refine lv_iload_n hx hb dX7_sortAt_26 rfl (lv_at hl 0 rfl) ?_
        refine lv_bipush (v := 57) hx hb dX7_sortAt_27 (by decide) ?_
        refine lv_icmp_gt (tgt := 36) hx hb dX7_sortAt_29 (by decide) (fun c8 => ?_) (fun c8 => ?_)
        · rw [if_pos c8] at h
          refine lv_iconst (v := 0) hx hb dX7_sortAt_36 (by decide) ?_
          exact tm_iret C0 (by rw [Option.some.inj h]) hP hS dX7_sortAt_37
        · rw [if_neg c8] at h
          refine lv_iconst (v := 2) hx hb dX7_sortAt_32 (by decide) ?_
          refine lv_goto (tgt := 37) hx hb dX7_sortAt_33 (by decide) ?_
          exact tm_iret C0 (by rw [Option.some.inj h]) hP hS dX7_sortAt_37
    · rw [if_neg c6] at h
      refine lv_iconst (v := 1) hx hb dX7_sortAt_18 (by decide) ?_
      exact tm_iret C0 (by rw [Option.some.inj h]) hP hS dX7_sortAt_19
/-! X7_isSpelled -/
theorem nX7_isSpelled_X7 : ∀ w ∈ wsX70, w ∈ wsX7_isSpelled := by decide +kernel
theorem kX7_isSpelled_0 : Cond.fieldLink RX7 45 "QuarrelDesk$Text" "begins" "I" ∈ wsX7_isSpelled := by decide +kernel
theorem kX7_isSpelled_1 : Cond.fieldLink RX7 31 "QuarrelDesk$Text" "ends" "I" ∈ wsX7_isSpelled := by decide +kernel
def f_X7_isSpelled_L2 (k : Int32 → Option Int32) (M : tm_M) (w1 : Int32) : Nat → Int32 → Option Int32
  | 0, _ => none
  | n + 1, v2 =>
    if 7 ≤ v2 then
      k v2
    else
      (some ((M 2 6) + v2)).bind fun x2 =>
      if (M 2 7) ≤ x2 then
        (some ((w1 * 7) + v2)).bind fun x4 =>
        if x4 < 0 then
          some 0
        else
          if 77 ≤ x4 then
            some 0
          else
            (tm_rds tm_wch 77 x4).bind fun x7 =>
            if 32 = x7 then
              f_X7_isSpelled_L2 k M w1 n (v2 + 1)
            else
              some 0
      else
        (f_X7_letterAt M x2).bind fun r10 =>
        (some ((w1 * 7) + v2)).bind fun x12 =>
        if x12 < 0 then
          some 0
        else
          if 77 ≤ x12 then
            some 0
          else
            (tm_rds tm_wch 77 x12).bind fun x15 =>
            if r10 = x15 then
              f_X7_isSpelled_L2 k M w1 n (v2 + 1)
            else
              some 0
def f_X7_isSpelled (M : tm_M) (p1 : Int32) : Option Int32 :=
  f_X7_isSpelled_L2 (fun v18 =>
    some 1) M p1 1000 0
set_option maxHeartbeats 4000000 in
set_option maxRecDepth 100000 in
theorem w_X7_isSpelled_L2 {p : Program} {l : Launch} {e : Env} {s : State} {m : MethodId} {args : Array Value} {below : List Frame} {meth : Method} {c : Code} {g : tm_G} {A : Nat → Prop} {L : List Nat} (C0 : tm_C p m c cX7_isSpelled 6 s args wsX7_isSpelled RX7 meth (some .boolean) g A L tm_all) (M : tm_M) (w1 : Int32) (k : Int32 → Option Int32) (r0 : Int32) (hk : ∀ (v2 : Int32), k v2 = some r0 → ∀ (H : Heap) (locs : List Loc) (ls : Array Slot), va_P g.1 vwCl (tm_ws g L M) H → va_S A s.heap H locs → lv_has ls 6 [(0, .ref (g.2.2 + 2)), (1, .int w1), (2, .int v2)] → W p l e { frames := 4, cells := 0, slots := 0, locals := 85 } s m args below meth c H locs 0 0 (MQ below (tm_QI g A L (r0, M)) args s 0 0 A) (F0 m 78 ls [])) : ∀ (n : Nat) (v2 : Int32), f_X7_isSpelled_L2 k M w1 n v2 = some r0 → ∀ (H : Heap) (locs : List Loc) (ls : Array Slot), va_P g.1 vwCl (tm_ws g L M) H → va_S A s.heap H locs → lv_has ls 6 [(0, .ref (g.2.2 + 2)), (1, .int w1), (2, .int v2)] → W p l e { frames := 4, cells := 0, slots := 0, locals := 85 } s m args below meth c H locs 0 0 (MQ below (tm_QI g A L (r0, M)) args s 0 0 A) (F0 m 2 ls []) := by
  obtain ⟨⟨hx, hb, hml, hown, hts⟩, hr, hlk, hK, hD, hG, hF⟩ := id C0
  intro n
  induction n with
  | zero =>
    intro v2 h
    simp [f_X7_isSpelled_L2] at h
  | succ n ih =>
    intro v2 h H locs ls hP hS hl
    rw [f_X7_isSpelled_L2] at h
    refine lv_iload_n hx hb dX7_isSpelled_2 rfl (lv_at hl 2 rfl) ?_
    refine lv_bipush (v := 7) hx hb dX7_isSpelled_3 (by decide) ?_
    refine lv_icmp_ge (tgt := 78) hx hb dX7_isSpelled_5 (by decide) (fun c1 => ?_) (fun c1 => ?_)
    · rw [if_pos c1] at h
      exact hk v2 h _ _ _ hP hS (lv_sub hl [0, 1, 2] rfl)
    · rw [if_neg c1] at h
      refine lv_aload_n hx hb dX7_isSpelled_8 rfl (lv_at hl 0 rfl) ?_
      refine tm_get (C := RX7) (T := TX7) (N := 8) (v := .int (M 2 6)) hx hb hts nX7_isSpelled_X7 hown hK hP (hF 2 (by decide)) (tm_mkX7 (by decide) _) rfl 6 (by decide) (hts _ kX7_isSpelled_0) rfl dX7_isSpelled_9 ?_
      refine lv_iload_n hx hb dX7_isSpelled_12 rfl (lv_at hl 2 rfl) ?_
      refine lv_iadd hx hb dX7_isSpelled_13 ?_
      refine tm_nam h (fun x2 h => ?_)
      refine lv_istore_n (lv' := [(3, .int x2), (0, .ref (g.2.2 + 2)), (1, .int w1), (2, .int v2)]) hx hb dX7_isSpelled_14 rfl hl (by decide) rfl (fun ls hl => ?_)
      refine lv_iload_n hx hb dX7_isSpelled_15 rfl (lv_at hl 0 rfl) ?_
      refine lv_aload_n hx hb dX7_isSpelled_16 rfl (lv_at hl 1 rfl) ?_
      refine tm_get (C := RX7) (T := TX7) (N := 8) (v := .int (M 2 7)) hx hb hts nX7_isSpelled_X7 hown hK hP (hF 2 (by decide)) (tm_mkX7 (by decide) _) rfl 7 (by decide) (hts _ kX7_isSpelled_1) rfl dX7_isSpelled_17 ?_
      refine lv_icmp_ge (tgt := 31) hx hb dX7_isSpelled_20 (by decide) (fun c3 => ?_) (fun c3 => ?_)
      · rw [if_pos c3] at h
        refine lv_bipush (v := 32) hx hb dX7_isSpelled_31 (by decide) ?_
        refine lv_istore (lv' := [(4, .int 32), (3, .int x2), (0, .ref (g.2.2 + 2)), (1, .int w1), (2, .int v2)]) hx hb dX7_isSpelled_33 hl (by decide) rfl (fun ls hl => ?_)
        refine lv_iload_n hx hb dX7_isSpelled_35 rfl (lv_at hl 3 rfl) ?_
        refine lv_bipush (v := 7) hx hb dX7_isSpelled_36 (by decide) ?_
        refine lv_imul hx hb dX7_isSpelled_38 ?_
        refine lv_iload_n hx hb dX7_isSpelled_39 rfl (lv_at hl 4 rfl) ?_
        refine lv_iadd hx hb dX7_isSpelled_40 ?_
        refine tm_nam h (fun x4 h => ?_)
        refine lv_istore (lv' := [(5, .int x4), (4, .int 32), (3, .int x2), (0, .ref (g.2.2 + 2)), (1, .int w1), (2, .int v2)]) hx hb dX7_isSpelled_41 hl (by decide) rfl (fun ls hl => ?_)
        refine lv_iload hx hb dX7_isSpelled_43 (lv_at hl 0 rfl) ?_
        refine lv_if_lt (tgt := 70) hx hb dX7_isSpelled_45 (by decide) (fun c5 => ?_) (fun c5 => ?_)
        · rw [if_pos c5] at h
          refine lv_iconst (v := 0) hx hb dX7_isSpelled_70 (by decide) ?_
          exact tm_zret C0 (by unfold tm_isB; decide) (by rw [Option.some.inj h]) hP hS dX7_isSpelled_71
        · rw [if_neg c5] at h
          refine lv_iload hx hb dX7_isSpelled_48 (lv_at hl 0 rfl) ?_
          refine va_ldcS hx hb hown hG.2.2.2.2.2.2.2.2.2.1.2 dX7_isSpelled_50 ?_
          refine tm_backI (r0 := 77) (M0 := M) (fun _ q => q) (tm_callV (As := []) (rest := [.int x4]) ⟨hx, hb, hml, hown, hts⟩ hK hG hP hS (c_J0_length l g A L hD hF M) (cwV 0 hts gX7_isSpelled_J0_length_8abf5 rfl rfl rfl (by decide +kernel) ⟨Nat.le_of_ble_eq_true rfl, Nat.le_of_ble_eq_true rfl⟩) (vk_recv (adK := fun _ => g.2.1 5) (i := 0) hG.2.2.2.2.2.2.2.2.2.1.1 (by decide) hS) rfl hl.1 (lv_room (Nat.le_of_ble_eq_true rfl)) dX7_isSpelled_52 ⟨Nat.zero_le _, Nat.zero_le _⟩) hS (fun H locs hP hS => ?_)
          refine lv_icmp_ge (tgt := 70) hx hb dX7_isSpelled_55 (by decide) (fun c6 => ?_) (fun c6 => ?_)
          · rw [if_pos c6] at h
            refine lv_iconst (v := 0) hx hb dX7_isSpelled_70 (by decide) ?_
            exact tm_zret C0 (by unfold tm_isB; decide) (by rw [Option.some.inj h]) hP hS dX7_isSpelled_71
          · rw [if_neg c6] at h
            refine lv_iload hx hb dX7_isSpelled_58 (lv_at hl 1 rfl) ?_
            refine va_ldcS hx hb hown hG.2.2.2.2.2.2.2.2.2.1.2 dX7_isSpelled_60 ?_
            refine lv_iload hx hb dX7_isSpelled_62 (lv_at hl 0 rfl) ?_
            obtain ⟨x7, e8, h⟩ := tm_bd_some h
            refine tm_backI (r0 := x7) (M0 := M) (fun _ q => q) (tm_callV (As := [.int x4]) (rest := [.int 32]) ⟨hx, hb, hml, hown, hts⟩ hK hG hP hS (c_J0_charAt l g A L hD hF M x4 x7 e8) (cwV 1 hts gX7_isSpelled_J0_charAt_5068e rfl rfl rfl (by decide +kernel) ⟨Nat.le_of_ble_eq_true rfl, Nat.le_of_ble_eq_true rfl⟩) (vk_recv (adK := fun _ => g.2.1 5) (i := 0) hG.2.2.2.2.2.2.2.2.2.1.1 (by decide) hS) rfl hl.1 (lv_room (Nat.le_of_ble_eq_true rfl)) dX7_isSpelled_64 ⟨Nat.zero_le _, Nat.zero_le _⟩) hS (fun H locs hP hS => ?_)
            refine lv_icmp_eq (tgt := 72) hx hb dX7_isSpelled_67 (by decide) (fun c9 => ?_) (fun c9 => ?_)
            · rw [if_pos c9] at h
              refine lv_iinc (v := v2 + 1) (lv' := [(2, .int (v2 + 1)), (5, .int x4), (4, .int 32), (3, .int x2), (0, .ref (g.2.2 + 2)), (1, .int w1)]) hx hb dX7_isSpelled_72 hl (k := 5) rfl rfl (by decide) rfl (fun ls hl => ?_)
              refine lv_goto (tgt := 2) hx hb dX7_isSpelled_75 (by decide) ?_
              exact ih (v2 + 1) h _ _ _ hP hS (lv_sub hl [4, 5, 0] rfl)
            · rw [if_neg c9] at h
              refine lv_iconst (v := 0) hx hb dX7_isSpelled_70 (by decide) ?_
              exact tm_zret C0 (by unfold tm_isB; decide) (by rw [Option.some.inj h]) hP hS dX7_isSpelled_71
      · rw [if_neg c3] at h
        refine lv_aload_n hx hb dX7_isSpelled_23 rfl (lv_at hl 1 rfl) ?_
        refine lv_iload_n hx hb dX7_isSpelled_24 rfl (lv_at hl 0 rfl) ?_
        obtain ⟨r10, e11, h⟩ := tm_bd_some h
        refine tm_backI (r0 := r10) (M0 := M) (fun _ q => q) (tm_callV (As := [.int x2]) (rest := []) ⟨hx, hb, hml, hown, hts⟩ hK hG hP hS (c_X7_letterAt l g A L hD hF M x2 r10 e11) (cwV 1 hts gX7_isSpelled_X7_letterAt rfl rfl rfl (by decide +kernel) ⟨Nat.le_of_ble_eq_true rfl, Nat.le_of_ble_eq_true rfl⟩) (tm_recv hK hP (hF 2 (by decide)) (ci := 6) rfl (tm_mkX7 (by decide) _)) rfl hl.1 (lv_room (Nat.le_of_ble_eq_true rfl)) dX7_isSpelled_25 ⟨Nat.zero_le _, Nat.zero_le _⟩) hS (fun H locs hP hS => ?_)
        refine lv_goto (tgt := 33) hx hb dX7_isSpelled_28 (by decide) ?_
        refine lv_istore (lv' := [(4, .int r10), (3, .int x2), (0, .ref (g.2.2 + 2)), (1, .int w1), (2, .int v2)]) hx hb dX7_isSpelled_33 hl (by decide) rfl (fun ls hl => ?_)
        refine lv_iload_n hx hb dX7_isSpelled_35 rfl (lv_at hl 3 rfl) ?_
        refine lv_bipush (v := 7) hx hb dX7_isSpelled_36 (by decide) ?_
        refine lv_imul hx hb dX7_isSpelled_38 ?_
        refine lv_iload_n hx hb dX7_isSpelled_39 rfl (lv_at hl 4 rfl) ?_
        refine lv_iadd hx hb dX7_isSpelled_40 ?_
        refine tm_nam h (fun x12 h => ?_)
        refine lv_istore (lv' := [(5, .int x12), (4, .int r10), (3, .int x2), (0, .ref (g.2.2 + 2)), (1, .int w1), (2, .int v2)]) hx hb dX7_isSpelled_41 hl (by decide) rfl (fun ls hl => ?_)
        refine lv_iload hx hb dX7_isSpelled_43 (lv_at hl 0 rfl) ?_
        refine lv_if_lt (tgt := 70) hx hb dX7_isSpelled_45 (by decide) (fun c13 => ?_) (fun c13 => ?_)
        · rw [if_pos c13] at h
          refine lv_iconst (v := 0) hx hb dX7_isSpelled_70 (by decide) ?_
          exact tm_zret C0 (by unfold tm_isB; decide) (by rw [Option.some.inj h]) hP hS dX7_isSpelled_71
        · rw [if_neg c13] at h
          refine lv_iload hx hb dX7_isSpelled_48 (lv_at hl 0 rfl) ?_
          refine va_ldcS hx hb hown hG.2.2.2.2.2.2.2.2.2.1.2 dX7_isSpelled_50 ?_
          refine tm_backI (r0 := 77) (M0 := M) (fun _ q => q) (tm_callV (As := []) (rest := [.int x12]) ⟨hx, hb, hml, hown, hts⟩ hK hG hP hS (c_J0_length l g A L hD hF M) (cwV 0 hts gX7_isSpelled_J0_length_8abf5 rfl rfl rfl (by decide +kernel) ⟨Nat.le_of_ble_eq_true rfl, Nat.le_of_ble_eq_true rfl⟩) (vk_recv (adK := fun _ => g.2.1 5) (i := 0) hG.2.2.2.2.2.2.2.2.2.1.1 (by decide) hS) rfl hl.1 (lv_room (Nat.le_of_ble_eq_true rfl)) dX7_isSpelled_52 ⟨Nat.zero_le _, Nat.zero_le _⟩) hS (fun H locs hP hS => ?_)
          refine lv_icmp_ge (tgt := 70) hx hb dX7_isSpelled_55 (by decide) (fun c14 => ?_) (fun c14 => ?_)
          · rw [if_pos c14] at h
            refine lv_iconst (v := 0) hx hb dX7_isSpelled_70 (by decide) ?_
            exact tm_zret C0 (by unfold tm_isB; decide) (by rw [Option.some.inj h]) hP hS dX7_isSpelled_71
          · rw [if_neg c14] at h
            refine lv_iload hx hb dX7_isSpelled_58 (lv_at hl 1 rfl) ?_
            refine va_ldcS hx hb hown hG.2.2.2.2.2.2.2.2.2.1.2 dX7_isSpelled_60 ?_
            refine lv_iload hx hb dX7_isSpelled_62 (lv_at hl 0 rfl) ?_
            obtain ⟨x15, e16, h⟩ := tm_bd_some h
            refine tm_backI (r0 := x15) (M0 := M) (fun _ q => q) (tm_callV (As := [.int x12]) (rest := [.int r10]) ⟨hx, hb, hml, hown, hts⟩ hK hG hP hS (c_J0_charAt l g A L hD hF M x12 x15 e16) (cwV 1 hts gX7_isSpelled_J0_charAt_5068e rfl rfl rfl (by decide +kernel) ⟨Nat.le_of_ble_eq_true rfl, Nat.le_of_ble_eq_true rfl⟩) (vk_recv (adK := fun _ => g.2.1 5) (i := 0) hG.2.2.2.2.2.2.2.2.2.1.1 (by decide) hS) rfl hl.1 (lv_room (Nat.le_of_ble_eq_true rfl)) dX7_isSpelled_64 ⟨Nat.zero_le _, Nat.zero_le _⟩) hS (fun H locs hP hS => ?_)
            refine lv_icmp_eq (tgt := 72) hx hb dX7_isSpelled_67 (by decide) (fun c17 => ?_) (fun c17 => ?_)
            · rw [if_pos c17] at h
              refine lv_iinc (v := v2 + 1) (lv' := [(2, .int (v2 + 1)), (5, .int x12), (4, .int r10), (3, .int x2), (0, .ref (g.2.2 + 2)), (1, .int w1)]) hx hb dX7_isSpelled_72 hl (k := 5) rfl rfl (by decide) rfl (fun ls hl => ?_)
              refine lv_goto (tgt := 2) hx hb dX7_isSpelled_75 (by decide) ?_
              exact ih (v2 + 1) h _ _ _ hP hS (lv_sub hl [4, 5, 0] rfl)
            · rw [if_neg c17] at h
              refine lv_iconst (v := 0) hx hb dX7_isSpelled_70 (by decide) ?_
              exact tm_zret C0 (by unfold tm_isB; decide) (by rw [Option.some.inj h]) hP hS dX7_isSpelled_71
set_option maxHeartbeats 4000000 in
set_option maxRecDepth 100000 in
theorem c_X7_isSpelled (l : Launch) (g : tm_G) (A : Nat → Prop) (L : List Nat) (hD : ∀ M, va_D A (tm_ws g L M)) (hF : ∀ o, tm_all o → o ∈ L) (M : tm_M) (p1 : Int32) (r0 : Int32) (h : f_X7_isSpelled M p1 = some r0) : Met l yX7_isSpelled wsX7_isSpelled { frames := 4, cells := 0, slots := 0, locals := 85 } (tm_PC g A L M [.ref (g.2.2 + 2), .int p1]) (tm_QI g A L (r0, M)) 0 0 A := by
  refine tm_start (cc := cX7_isSpelled) (nL := 6) (ret := (some .boolean)) (F := tm_all) (plainFor_of_name (by decide)) rfl (Nat.le_of_ble_eq_true rfl) hD hF (fun p e s m args below meth c ls C0 hP hS hl => ?_)
  have hl : lv_has ls 6 [(0, .ref (g.2.2 + 2)), (1, .int p1)] := hl
  have C0 : tm_C p m c cX7_isSpelled 6 s args wsX7_isSpelled RX7 meth (some .boolean) g A L tm_all := C0
  obtain ⟨⟨hx, hb, hml, hown, hts⟩, hr, hlk, hK, hD, hG, hF⟩ := id C0
  unfold f_X7_isSpelled at h
  refine lv_iconst (v := 0) hx hb dX7_isSpelled_0 (by decide) ?_
  refine lv_istore_n (lv' := [(2, .int 0), (0, .ref (g.2.2 + 2)), (1, .int p1)]) hx hb dX7_isSpelled_1 rfl hl (by decide) rfl (fun ls hl => ?_)
  refine w_X7_isSpelled_L2 C0 M p1 _ r0 (fun v18 h H locs ls hP hS hl => ?_) 1000 0 h _ _ _ hP hS (lv_sub hl [1, 2, 0] rfl)
  refine lv_iconst (v := 1) hx hb dX7_isSpelled_78 (by decide) ?_
  exact tm_zret C0 (by unfold tm_isB; decide) (by rw [Option.some.inj h]) hP hS dX7_isSpelled_79
/-! X7_nextToken -/
theorem nX7_nextToken_X7 : ∀ w ∈ wsX70, w ∈ wsX7_nextToken := by decide +kernel
theorem kX7_nextToken_0 : Cond.fieldLink RX7 31 "QuarrelDesk$Text" "ends" "I" ∈ wsX7_nextToken := by decide +kernel
theorem kX7_nextToken_1 : Cond.fieldLink RX7 45 "QuarrelDesk$Text" "begins" "I" ∈ wsX7_nextToken := by decide +kernel
theorem kX7_nextToken_2 : Cond.fieldLink RX7 24 "QuarrelDesk$Text" "length" "I" ∈ wsX7_nextToken := by decide +kernel
theorem kX7_nextToken_3 : Cond.methodLink RX7 73 Lib.Math.min.name ∈ wsX7_nextToken := by decide +kernel
theorem kX7_nextToken_4 : Cond.static Lib.Math.min.name ∈ wsX7_nextToken := by decide +kernel
theorem kX7_nextToken_5 : Cond.initialized "java/lang/Math" ∈ wsX7_nextToken := by decide +kernel
theorem kX7_nextToken_6 : Cond.code Lib.Math.min.name Lib.Math.min.code 2 (some .int) ∈ wsX7_nextToken := by decide +kernel
def f_X7_nextToken_L8 (k : tm_M → Option tm_M) : Nat → tm_M → Option tm_M
  | 0, _ => none
  | n + 1, M =>
    if (M 2 4) ≤ (M 2 6) then
      k M
    else
      (f_X7_letterAt M (M 2 6)).bind fun r4 =>
      if r4 = 32 then
        (some (tm_st M 2 6 ((M 2 6) + 1))).bind fun M7 =>
        f_X7_nextToken_L8 k  n M7
      else
        k M
def f_X7_nextToken_L71 (k : tm_M → Option tm_M) (w1 : Int32) : Nat → tm_M → Option tm_M
  | 0, _ => none
  | n + 1, M =>
    if w1 = 0 then
      k M
    else
      if (M 2 4) ≤ (M 2 7) then
        k M
      else
        (f_X7_sortAt M (M 2 7)).bind fun r16 =>
        if r16 = w1 then
          (some (tm_st M 2 7 ((M 2 7) + 1))).bind fun M19 =>
          f_X7_nextToken_L71 k w1 n M19
        else
          k M
def f_X7_nextToken (M : tm_M) : Option tm_M :=
  (some (tm_st M 2 6 (M 2 7))).bind fun M1 =>
  f_X7_nextToken_L8 (fun M9 =>
    (f_X7_sortAt M9 (M9 2 6)).bind fun r10 =>
    (some (tm_st M9 2 7 (if ((M9 2 6) + 1) < (M9 2 4) then ((M9 2 6) + 1) else (M9 2 4)))).bind fun M12 =>
    f_X7_nextToken_L71 (fun M21 =>
      some M21) r10 1000 M12)  1000 M1
set_option maxHeartbeats 4000000 in
set_option maxRecDepth 100000 in
theorem w_X7_nextToken_L8 {p : Program} {l : Launch} {e : Env} {s : State} {m : MethodId} {args : Array Value} {below : List Frame} {meth : Method} {c : Code} {g : tm_G} {A : Nat → Prop} {L : List Nat} (C0 : tm_C p m c cX7_nextToken 2 s args wsX7_nextToken RX7 meth none g A L tm_all) (k : tm_M → Option tm_M) (M0 : tm_M) (hk : ∀ (M : tm_M), k M = some M0 → ∀ (H : Heap) (locs : List Loc) (ls : Array Slot), va_P g.1 vwCl (tm_ws g L M) H → va_S A s.heap H locs → lv_has ls 2 [(0, .ref (g.2.2 + 2))] → W p l e { frames := 2, cells := 0, slots := 0, locals := 43 } s m args below meth c H locs 0 0 (MQ below (tm_QV g A L M0) args s 0 0 A) (F0 m 45 ls [])) : ∀ (n : Nat) (M : tm_M), f_X7_nextToken_L8 k  n M = some M0 → ∀ (H : Heap) (locs : List Loc) (ls : Array Slot), va_P g.1 vwCl (tm_ws g L M) H → va_S A s.heap H locs → lv_has ls 2 [(0, .ref (g.2.2 + 2))] → W p l e { frames := 2, cells := 0, slots := 0, locals := 43 } s m args below meth c H locs 0 0 (MQ below (tm_QV g A L M0) args s 0 0 A) (F0 m 8 ls []) := by
  obtain ⟨⟨hx, hb, hml, hown, hts⟩, hr, hlk, hK, hD, hG, hF⟩ := id C0
  intro n
  induction n with
  | zero =>
    intro M h
    simp [f_X7_nextToken_L8] at h
  | succ n ih =>
    intro M h H locs ls hP hS hl
    rw [f_X7_nextToken_L8] at h
    refine lv_aload_n hx hb dX7_nextToken_8 rfl (lv_at hl 0 rfl) ?_
    refine tm_get (C := RX7) (T := TX7) (N := 8) (v := .int (M 2 6)) hx hb hts nX7_nextToken_X7 hown hK hP (hF 2 (by decide)) (tm_mkX7 (by decide) _) rfl 6 (by decide) (hts _ kX7_nextToken_1) rfl dX7_nextToken_9 ?_
    refine lv_aload_n hx hb dX7_nextToken_12 rfl (lv_at hl 0 rfl) ?_
    refine tm_get (C := RX7) (T := TX7) (N := 8) (v := .int (M 2 4)) hx hb hts nX7_nextToken_X7 hown hK hP (hF 2 (by decide)) (tm_mkX7 (by decide) _) rfl 4 (by decide) (hts _ kX7_nextToken_2) rfl dX7_nextToken_13 ?_
    refine lv_icmp_ge (tgt := 45) hx hb dX7_nextToken_16 (by decide) (fun c3 => ?_) (fun c3 => ?_)
    · rw [if_pos c3] at h
      exact hk M h _ _ _ hP hS (lv_sub hl [0] rfl)
    · rw [if_neg c3] at h
      refine lv_aload_n hx hb dX7_nextToken_19 rfl (lv_at hl 0 rfl) ?_
      refine lv_aload_n hx hb dX7_nextToken_20 rfl (lv_at hl 0 rfl) ?_
      refine tm_get (C := RX7) (T := TX7) (N := 8) (v := .int (M 2 6)) hx hb hts nX7_nextToken_X7 hown hK hP (hF 2 (by decide)) (tm_mkX7 (by decide) _) rfl 6 (by decide) (hts _ kX7_nextToken_1) rfl dX7_nextToken_21 ?_
      obtain ⟨r4, e5, h⟩ := tm_bd_some h
      refine tm_backI (r0 := r4) (M0 := M) (fun _ q => q) (tm_callV (As := [.int (M 2 6)]) (rest := []) ⟨hx, hb, hml, hown, hts⟩ hK hG hP hS (c_X7_letterAt l g A L hD hF M (M 2 6) r4 e5) (cwV 1 hts gX7_nextToken_X7_letterAt rfl rfl rfl (by decide +kernel) ⟨Nat.le_of_ble_eq_true rfl, Nat.le_of_ble_eq_true rfl⟩) (tm_recv hK hP (hF 2 (by decide)) (ci := 6) rfl (tm_mkX7 (by decide) _)) rfl hl.1 (lv_room (Nat.le_of_ble_eq_true rfl)) dX7_nextToken_24 ⟨Nat.zero_le _, Nat.zero_le _⟩) hS (fun H locs hP hS => ?_)
      refine lv_bipush (v := 32) hx hb dX7_nextToken_27 (by decide) ?_
      refine lv_icmp_ne (tgt := 45) hx hb dX7_nextToken_29 (by decide) (fun c6 => ?_) (fun c6 => ?_)
      · rw [if_neg c6] at h
        exact hk M h _ _ _ hP hS (lv_sub hl [0] rfl)
      · rw [if_pos c6] at h
        refine lv_aload_n hx hb dX7_nextToken_32 rfl (lv_at hl 0 rfl) ?_
        refine lv_dup hx hb dX7_nextToken_33 rfl ?_
        refine tm_get (C := RX7) (T := TX7) (N := 8) (v := .int (M 2 6)) hx hb hts nX7_nextToken_X7 hown hK hP (hF 2 (by decide)) (tm_mkX7 (by decide) _) rfl 6 (by decide) (hts _ kX7_nextToken_1) rfl dX7_nextToken_34 ?_
        refine lv_iconst (v := 1) hx hb dX7_nextToken_37 (by decide) ?_
        refine lv_iadd hx hb dX7_nextToken_38 ?_
        obtain ⟨M7, e8, h⟩ := tm_bd_some h
        refine tm_put (C := RX7) (T := TX7) (N := 8) (ty := .int) (x := (M 2 6) + 1) hx hb hts nX7_nextToken_X7 tyX7 tyX7_ok nmX7 hown hK hP hD hS (hF 2 (by decide)) (tm_mkX7 (by decide)) rfl 6 (by decide) (hts _ kX7_nextToken_1) rfl (by decide +kernel) rfl rfl (Nat.le_of_ble_eq_true rfl) rfl (Option.some.inj e8) dX7_nextToken_39 (fun H locs hP hS => ?_)
        refine lv_goto (tgt := 8) hx hb dX7_nextToken_42 (by decide) ?_
        exact ih M7 h _ _ _ hP hS (lv_sub hl [0] rfl)
set_option maxHeartbeats 4000000 in
set_option maxRecDepth 100000 in
theorem w_X7_nextToken_L71 {p : Program} {l : Launch} {e : Env} {s : State} {m : MethodId} {args : Array Value} {below : List Frame} {meth : Method} {c : Code} {g : tm_G} {A : Nat → Prop} {L : List Nat} (C0 : tm_C p m c cX7_nextToken 2 s args wsX7_nextToken RX7 meth none g A L tm_all) (w1 : Int32) (k : tm_M → Option tm_M) (M0 : tm_M) (hk : ∀ (M : tm_M), k M = some M0 → ∀ (H : Heap) (locs : List Loc) (ls : Array Slot), va_P g.1 vwCl (tm_ws g L M) H → va_S A s.heap H locs → lv_has ls 2 [(0, .ref (g.2.2 + 2)), (1, .int w1)] → W p l e { frames := 2, cells := 0, slots := 0, locals := 43 } s m args below meth c H locs 0 0 (MQ below (tm_QV g A L M0) args s 0 0 A) (F0 m 111 ls [])) : ∀ (n : Nat) (M : tm_M), f_X7_nextToken_L71 k w1 n M = some M0 → ∀ (H : Heap) (locs : List Loc) (ls : Array Slot), va_P g.1 vwCl (tm_ws g L M) H → va_S A s.heap H locs → lv_has ls 2 [(0, .ref (g.2.2 + 2)), (1, .int w1)] → W p l e { frames := 2, cells := 0, slots := 0, locals := 43 } s m args below meth c H locs 0 0 (MQ below (tm_QV g A L M0) args s 0 0 A) (F0 m 71 ls []) := by
  obtain ⟨⟨hx, hb, hml, hown, hts⟩, hr, hlk, hK, hD, hG, hF⟩ := id C0
  intro n
  induction n with
  | zero =>
    intro M h
    simp [f_X7_nextToken_L71] at h
  | succ n ih =>
    intro M h H locs ls hP hS hl
    rw [f_X7_nextToken_L71] at h
    refine lv_iload_n hx hb dX7_nextToken_71 rfl (lv_at hl 1 rfl) ?_
    refine lv_if_eq (tgt := 111) hx hb dX7_nextToken_72 (by decide) (fun c14 => ?_) (fun c14 => ?_)
    · rw [if_pos c14] at h
      exact hk M h _ _ _ hP hS (lv_sub hl [0, 1] rfl)
    · rw [if_neg c14] at h
      refine lv_aload_n hx hb dX7_nextToken_75 rfl (lv_at hl 0 rfl) ?_
      refine tm_get (C := RX7) (T := TX7) (N := 8) (v := .int (M 2 7)) hx hb hts nX7_nextToken_X7 hown hK hP (hF 2 (by decide)) (tm_mkX7 (by decide) _) rfl 7 (by decide) (hts _ kX7_nextToken_0) rfl dX7_nextToken_76 ?_
      refine lv_aload_n hx hb dX7_nextToken_79 rfl (lv_at hl 0 rfl) ?_
      refine tm_get (C := RX7) (T := TX7) (N := 8) (v := .int (M 2 4)) hx hb hts nX7_nextToken_X7 hown hK hP (hF 2 (by decide)) (tm_mkX7 (by decide) _) rfl 4 (by decide) (hts _ kX7_nextToken_2) rfl dX7_nextToken_80 ?_
      refine lv_icmp_ge (tgt := 111) hx hb dX7_nextToken_83 (by decide) (fun c15 => ?_) (fun c15 => ?_)
      · rw [if_pos c15] at h
        exact hk M h _ _ _ hP hS (lv_sub hl [0, 1] rfl)
      · rw [if_neg c15] at h
        refine lv_aload_n hx hb dX7_nextToken_86 rfl (lv_at hl 0 rfl) ?_
        refine lv_aload_n hx hb dX7_nextToken_87 rfl (lv_at hl 0 rfl) ?_
        refine tm_get (C := RX7) (T := TX7) (N := 8) (v := .int (M 2 7)) hx hb hts nX7_nextToken_X7 hown hK hP (hF 2 (by decide)) (tm_mkX7 (by decide) _) rfl 7 (by decide) (hts _ kX7_nextToken_0) rfl dX7_nextToken_88 ?_
        obtain ⟨r16, e17, h⟩ := tm_bd_some h
        refine tm_backI (r0 := r16) (M0 := M) (fun _ q => q) (tm_callV (As := [.int (M 2 7)]) (rest := []) ⟨hx, hb, hml, hown, hts⟩ hK hG hP hS (c_X7_sortAt l g A L hD hF M (M 2 7) r16 e17) (cwV 1 hts gX7_nextToken_X7_sortAt rfl rfl rfl (by decide +kernel) ⟨Nat.le_of_ble_eq_true rfl, Nat.le_of_ble_eq_true rfl⟩) (tm_recv hK hP (hF 2 (by decide)) (ci := 6) rfl (tm_mkX7 (by decide) _)) rfl hl.1 (lv_room (Nat.le_of_ble_eq_true rfl)) dX7_nextToken_91 ⟨Nat.zero_le _, Nat.zero_le _⟩) hS (fun H locs hP hS => ?_)
        refine lv_iload_n hx hb dX7_nextToken_94 rfl (lv_at hl 1 rfl) ?_
        refine lv_icmp_ne (tgt := 111) hx hb dX7_nextToken_95 (by decide) (fun c18 => ?_) (fun c18 => ?_)
        · rw [if_neg c18] at h
          exact hk M h _ _ _ hP hS (lv_sub hl [0, 1] rfl)
        · rw [if_pos c18] at h
          refine lv_aload_n hx hb dX7_nextToken_98 rfl (lv_at hl 0 rfl) ?_
          refine lv_dup hx hb dX7_nextToken_99 rfl ?_
          refine tm_get (C := RX7) (T := TX7) (N := 8) (v := .int (M 2 7)) hx hb hts nX7_nextToken_X7 hown hK hP (hF 2 (by decide)) (tm_mkX7 (by decide) _) rfl 7 (by decide) (hts _ kX7_nextToken_0) rfl dX7_nextToken_100 ?_
          refine lv_iconst (v := 1) hx hb dX7_nextToken_103 (by decide) ?_
          refine lv_iadd hx hb dX7_nextToken_104 ?_
          obtain ⟨M19, e20, h⟩ := tm_bd_some h
          refine tm_put (C := RX7) (T := TX7) (N := 8) (ty := .int) (x := (M 2 7) + 1) hx hb hts nX7_nextToken_X7 tyX7 tyX7_ok nmX7 hown hK hP hD hS (hF 2 (by decide)) (tm_mkX7 (by decide)) rfl 7 (by decide) (hts _ kX7_nextToken_0) rfl (by decide +kernel) rfl rfl (Nat.le_of_ble_eq_true rfl) rfl (Option.some.inj e20) dX7_nextToken_105 (fun H locs hP hS => ?_)
          refine lv_goto (tgt := 71) hx hb dX7_nextToken_108 (by decide) ?_
          exact ih M19 h _ _ _ hP hS (lv_sub hl [0, 1] rfl)
set_option maxHeartbeats 4000000 in
set_option maxRecDepth 100000 in
theorem c_X7_nextToken (l : Launch) (g : tm_G) (A : Nat → Prop) (L : List Nat) (hD : ∀ M, va_D A (tm_ws g L M)) (hF : ∀ o, tm_all o → o ∈ L) (M : tm_M) (M0 : tm_M) (h : f_X7_nextToken M = some M0) : Met l yX7_nextToken wsX7_nextToken { frames := 2, cells := 0, slots := 0, locals := 43 } (tm_PC g A L M [.ref (g.2.2 + 2)]) (tm_QV g A L M0) 0 0 A := by
  refine tm_start (cc := cX7_nextToken) (nL := 2) (ret := none) (F := tm_all) (plainFor_of_name (by decide)) rfl (Nat.le_of_ble_eq_true rfl) hD hF (fun p e s m args below meth c ls C0 hP hS hl => ?_)
  have hl : lv_has ls 2 [(0, .ref (g.2.2 + 2))] := hl
  have C0 : tm_C p m c cX7_nextToken 2 s args wsX7_nextToken RX7 meth none g A L tm_all := C0
  obtain ⟨⟨hx, hb, hml, hown, hts⟩, hr, hlk, hK, hD, hG, hF⟩ := id C0
  unfold f_X7_nextToken at h
  refine lv_aload_n hx hb dX7_nextToken_0 rfl (lv_at hl 0 rfl) ?_
  refine lv_aload_n hx hb dX7_nextToken_1 rfl (lv_at hl 0 rfl) ?_
  refine tm_get (C := RX7) (T := TX7) (N := 8) (v := .int (M 2 7)) hx hb hts nX7_nextToken_X7 hown hK hP (hF 2 (by decide)) (tm_mkX7 (by decide) _) rfl 7 (by decide) (hts _ kX7_nextToken_0) rfl dX7_nextToken_2 ?_
  obtain ⟨M1, e2, h⟩ := tm_bd_some h
  refine tm_put (C := RX7) (T := TX7) (N := 8) (ty := .int) (x := M 2 7) hx hb hts nX7_nextToken_X7 tyX7 tyX7_ok nmX7 hown hK hP hD hS (hF 2 (by decide)) (tm_mkX7 (by decide)) rfl 6 (by decide) (hts _ kX7_nextToken_1) rfl (by decide +kernel) rfl rfl (Nat.le_of_ble_eq_true rfl) rfl (Option.some.inj e2) dX7_nextToken_5 (fun H locs hP hS => ?_)
  refine w_X7_nextToken_L8 C0  _ M0 (fun M9 h H locs ls hP hS hl => ?_) 1000 M1 h _ _ _ hP hS (lv_sub hl [0] rfl)
  refine lv_aload_n hx hb dX7_nextToken_45 rfl (lv_at hl 0 rfl) ?_
  refine lv_aload_n hx hb dX7_nextToken_46 rfl (lv_at hl 0 rfl) ?_
  refine tm_get (C := RX7) (T := TX7) (N := 8) (v := .int (M9 2 6)) hx hb hts nX7_nextToken_X7 hown hK hP (hF 2 (by decide)) (tm_mkX7 (by decide) _) rfl 6 (by decide) (hts _ kX7_nextToken_1) rfl dX7_nextToken_47 ?_
  obtain ⟨r10, e11, h⟩ := tm_bd_some h
  refine tm_backI (r0 := r10) (M0 := M9) (fun _ q => q) (tm_callV (As := [.int (M9 2 6)]) (rest := []) ⟨hx, hb, hml, hown, hts⟩ hK hG hP hS (c_X7_sortAt l g A L hD hF M9 (M9 2 6) r10 e11) (cwV 1 hts gX7_nextToken_X7_sortAt rfl rfl rfl (by decide +kernel) ⟨Nat.le_of_ble_eq_true rfl, Nat.le_of_ble_eq_true rfl⟩) (tm_recv hK hP (hF 2 (by decide)) (ci := 6) rfl (tm_mkX7 (by decide) _)) rfl hl.1 (lv_room (Nat.le_of_ble_eq_true rfl)) dX7_nextToken_50 ⟨Nat.zero_le _, Nat.zero_le _⟩) hS (fun H locs hP hS => ?_)
  refine lv_istore_n (lv' := [(1, .int r10), (0, .ref (g.2.2 + 2))]) hx hb dX7_nextToken_53 rfl hl (by decide) rfl (fun ls hl => ?_)
  refine lv_aload_n hx hb dX7_nextToken_54 rfl (lv_at hl 1 rfl) ?_
  refine lv_aload_n hx hb dX7_nextToken_55 rfl (lv_at hl 1 rfl) ?_
  refine tm_get (C := RX7) (T := TX7) (N := 8) (v := .int (M9 2 4)) hx hb hts nX7_nextToken_X7 hown hK hP (hF 2 (by decide)) (tm_mkX7 (by decide) _) rfl 4 (by decide) (hts _ kX7_nextToken_2) rfl dX7_nextToken_56 ?_
  refine lv_aload_n hx hb dX7_nextToken_59 rfl (lv_at hl 1 rfl) ?_
  refine tm_get (C := RX7) (T := TX7) (N := 8) (v := .int (M9 2 6)) hx hb hts nX7_nextToken_X7 hown hK hP (hF 2 (by decide)) (tm_mkX7 (by decide) _) rfl 6 (by decide) (hts _ kX7_nextToken_1) rfl dX7_nextToken_60 ?_
  refine lv_iconst (v := 1) hx hb dX7_nextToken_63 (by decide) ?_
  refine lv_iadd hx hb dX7_nextToken_64 ?_
  refine va_mmin hx hb (hml.trans hl.1.symm) hown (hts _ kX7_nextToken_3) (hts _ kX7_nextToken_4) (hts _ kX7_nextToken_5) (hts _ kX7_nextToken_6) (Nat.le_of_ble_eq_true rfl) (Nat.le_of_ble_eq_true rfl) (Nat.zero_le _) (Nat.zero_le _) dX7_nextToken_65 ?_
  obtain ⟨M12, e13, h⟩ := tm_bd_some h
  refine tm_put (C := RX7) (T := TX7) (N := 8) (ty := .int) (x := (if ((M9 2 6) + 1) < (M9 2 4) then ((M9 2 6) + 1) else (M9 2 4))) hx hb hts nX7_nextToken_X7 tyX7 tyX7_ok nmX7 hown hK hP hD hS (hF 2 (by decide)) (tm_mkX7 (by decide)) rfl 7 (by decide) (hts _ kX7_nextToken_0) rfl (by decide +kernel) rfl rfl (Nat.le_of_ble_eq_true rfl) rfl (Option.some.inj e13) dX7_nextToken_68 (fun H locs hP hS => ?_)
  refine w_X7_nextToken_L71 C0 r10 _ M0 (fun M21 h H locs ls hP hS hl => ?_) 1000 M12 h _ _ _ hP hS (lv_sub hl [1, 0] rfl)
  exact tm_vret C0 (Option.some.inj h) hP hS dX7_nextToken_111
/-! X7_word -/
theorem nX7_word_X7 : ∀ w ∈ wsX70, w ∈ wsX7_word := by decide +kernel
theorem kX7_word_0 : Cond.fieldLink RX7 45 "QuarrelDesk$Text" "begins" "I" ∈ wsX7_word := by decide +kernel
theorem kX7_word_1 : Cond.fieldLink RX7 31 "QuarrelDesk$Text" "ends" "I" ∈ wsX7_word := by decide +kernel
def f_X7_word_L28 (k : Int32 → Option Int32) (M : tm_M) : Nat → Int32 → Option Int32
  | 0, _ => none
  | n + 1, v1 =>
    if 11 ≤ v1 then
      k v1
    else
      (f_X7_isSpelled M v1).bind fun r6 =>
      if r6 = 0 then
        f_X7_word_L28 k M n (v1 + 1)
      else
        some v1
def f_X7_word (M : tm_M) : Option Int32 :=
  (f_X7_sortAt M (M 2 6)).bind fun r1 =>
  if r1 = 1 then
    if 7 < ((M 2 7) - (M 2 6)) then
      some (-1)
    else
      f_X7_word_L28 (fun v9 =>
        some (-1)) M 1000 0
  else
    some (-1)
set_option maxHeartbeats 4000000 in
set_option maxRecDepth 100000 in
theorem w_X7_word_L28 {p : Program} {l : Launch} {e : Env} {s : State} {m : MethodId} {args : Array Value} {below : List Frame} {meth : Method} {c : Code} {g : tm_G} {A : Nat → Prop} {L : List Nat} (C0 : tm_C p m c cX7_word 2 s args wsX7_word RX7 meth (some .int) g A L tm_all) (M : tm_M) (k : Int32 → Option Int32) (r0 : Int32) (hk : ∀ (v1 : Int32), k v1 = some r0 → ∀ (H : Heap) (locs : List Loc) (ls : Array Slot), va_P g.1 vwCl (tm_ws g L M) H → va_S A s.heap H locs → lv_has ls 2 [(0, .ref (g.2.2 + 2)), (1, .int v1)] → W p l e { frames := 5, cells := 0, slots := 0, locals := 110 } s m args below meth c H locs 0 0 (MQ below (tm_QI g A L (r0, M)) args s 0 0 A) (F0 m 50 ls [])) : ∀ (n : Nat) (v1 : Int32), f_X7_word_L28 k M n v1 = some r0 → ∀ (H : Heap) (locs : List Loc) (ls : Array Slot), va_P g.1 vwCl (tm_ws g L M) H → va_S A s.heap H locs → lv_has ls 2 [(0, .ref (g.2.2 + 2)), (1, .int v1)] → W p l e { frames := 5, cells := 0, slots := 0, locals := 110 } s m args below meth c H locs 0 0 (MQ below (tm_QI g A L (r0, M)) args s 0 0 A) (F0 m 28 ls []) := by
  obtain ⟨⟨hx, hb, hml, hown, hts⟩, hr, hlk, hK, hD, hG, hF⟩ := id C0
  intro n
  induction n with
  | zero =>
    intro v1 h
    simp [f_X7_word_L28] at h
  | succ n ih =>
    intro v1 h H locs ls hP hS hl
    rw [f_X7_word_L28] at h
    refine lv_iload_n hx hb dX7_word_28 rfl (lv_at hl 1 rfl) ?_
    refine lv_bipush (v := 11) hx hb dX7_word_29 (by decide) ?_
    refine lv_icmp_ge (tgt := 50) hx hb dX7_word_31 (by decide) (fun c5 => ?_) (fun c5 => ?_)
    · rw [if_pos c5] at h
      exact hk v1 h _ _ _ hP hS (lv_sub hl [0, 1] rfl)
    · rw [if_neg c5] at h
      refine lv_aload_n hx hb dX7_word_34 rfl (lv_at hl 0 rfl) ?_
      refine lv_iload_n hx hb dX7_word_35 rfl (lv_at hl 1 rfl) ?_
      obtain ⟨r6, e7, h⟩ := tm_bd_some h
      refine tm_backI (r0 := r6) (M0 := M) (fun _ q => q) (tm_callV (As := [.int v1]) (rest := []) ⟨hx, hb, hml, hown, hts⟩ hK hG hP hS (c_X7_isSpelled l g A L hD hF M v1 r6 e7) (cwV 1 hts gX7_word_X7_isSpelled rfl rfl rfl (by decide +kernel) ⟨Nat.le_of_ble_eq_true rfl, Nat.le_of_ble_eq_true rfl⟩) (tm_recv hK hP (hF 2 (by decide)) (ci := 6) rfl (tm_mkX7 (by decide) _)) rfl hl.1 (lv_room (Nat.le_of_ble_eq_true rfl)) dX7_word_36 ⟨Nat.zero_le _, Nat.zero_le _⟩) hS (fun H locs hP hS => ?_)
      refine lv_if_eq (tgt := 44) hx hb dX7_word_39 (by decide) (fun c8 => ?_) (fun c8 => ?_)
      · rw [if_pos c8] at h
        refine lv_iinc (v := v1 + 1) (lv' := [(1, .int (v1 + 1)), (0, .ref (g.2.2 + 2))]) hx hb dX7_word_44 hl (k := 1) rfl rfl (by decide) rfl (fun ls hl => ?_)
        refine lv_goto (tgt := 28) hx hb dX7_word_47 (by decide) ?_
        exact ih (v1 + 1) h _ _ _ hP hS (lv_sub hl [1, 0] rfl)
      · rw [if_neg c8] at h
        refine lv_iload_n hx hb dX7_word_42 rfl (lv_at hl 1 rfl) ?_
        exact tm_iret C0 (by rw [Option.some.inj h]) hP hS dX7_word_43
set_option maxHeartbeats 4000000 in
set_option maxRecDepth 100000 in
theorem c_X7_word (l : Launch) (g : tm_G) (A : Nat → Prop) (L : List Nat) (hD : ∀ M, va_D A (tm_ws g L M)) (hF : ∀ o, tm_all o → o ∈ L) (M : tm_M) (r0 : Int32) (h : f_X7_word M = some r0) : Met l yX7_word wsX7_word { frames := 5, cells := 0, slots := 0, locals := 110 } (tm_PC g A L M [.ref (g.2.2 + 2)]) (tm_QI g A L (r0, M)) 0 0 A := by
  refine tm_start (cc := cX7_word) (nL := 2) (ret := (some .int)) (F := tm_all) (plainFor_of_name (by decide)) rfl (Nat.le_of_ble_eq_true rfl) hD hF (fun p e s m args below meth c ls C0 hP hS hl => ?_)
  have hl : lv_has ls 2 [(0, .ref (g.2.2 + 2))] := hl
  have C0 : tm_C p m c cX7_word 2 s args wsX7_word RX7 meth (some .int) g A L tm_all := C0
  obtain ⟨⟨hx, hb, hml, hown, hts⟩, hr, hlk, hK, hD, hG, hF⟩ := id C0
  unfold f_X7_word at h
  refine lv_aload_n hx hb dX7_word_0 rfl (lv_at hl 0 rfl) ?_
  refine lv_aload_n hx hb dX7_word_1 rfl (lv_at hl 0 rfl) ?_
  refine tm_get (C := RX7) (T := TX7) (N := 8) (v := .int (M 2 6)) hx hb hts nX7_word_X7 hown hK hP (hF 2 (by decide)) (tm_mkX7 (by decide) _) rfl 6 (by decide) (hts _ kX7_word_0) rfl dX7_word_2 ?_
  obtain ⟨r1, e2, h⟩ := tm_bd_some h
  refine tm_backI (r0 := r1) (M0 := M) (fun _ q => q) (tm_callV (As := [.int (M 2 6)]) (rest := []) ⟨hx, hb, hml, hown, hts⟩ hK hG hP hS (c_X7_sortAt l g A L hD hF M (M 2 6) r1 e2) (cwV 1 hts gX7_word_X7_sortAt rfl rfl rfl (by decide +kernel) ⟨Nat.le_of_ble_eq_true rfl, Nat.le_of_ble_eq_true rfl⟩) (tm_recv hK hP (hF 2 (by decide)) (ci := 6) rfl (tm_mkX7 (by decide) _)) rfl hl.1 (lv_room (Nat.le_of_ble_eq_true rfl)) dX7_word_5 ⟨Nat.zero_le _, Nat.zero_le _⟩) hS (fun H locs hP hS => ?_)
  refine lv_iconst (v := 1) hx hb dX7_word_8 (by decide) ?_
  refine lv_icmp_ne (tgt := 50) hx hb dX7_word_9 (by decide) (fun c3 => ?_) (fun c3 => ?_)
  · rw [if_neg c3] at h
    refine lv_iconst (v := (-1)) hx hb dX7_word_50 (by decide) ?_
    exact tm_iret C0 (by rw [Option.some.inj h]) hP hS dX7_word_51
  · rw [if_pos c3] at h
    refine lv_aload_n hx hb dX7_word_12 rfl (lv_at hl 0 rfl) ?_
    refine tm_get (C := RX7) (T := TX7) (N := 8) (v := .int (M 2 7)) hx hb hts nX7_word_X7 hown hK hP (hF 2 (by decide)) (tm_mkX7 (by decide) _) rfl 7 (by decide) (hts _ kX7_word_1) rfl dX7_word_13 ?_
    refine lv_aload_n hx hb dX7_word_16 rfl (lv_at hl 0 rfl) ?_
    refine tm_get (C := RX7) (T := TX7) (N := 8) (v := .int (M 2 6)) hx hb hts nX7_word_X7 hown hK hP (hF 2 (by decide)) (tm_mkX7 (by decide) _) rfl 6 (by decide) (hts _ kX7_word_0) rfl dX7_word_17 ?_
    refine lv_isub hx hb dX7_word_20 ?_
    refine lv_bipush (v := 7) hx hb dX7_word_21 (by decide) ?_
    refine lv_icmp_gt (tgt := 50) hx hb dX7_word_23 (by decide) (fun c4 => ?_) (fun c4 => ?_)
    · rw [if_pos c4] at h
      refine lv_iconst (v := (-1)) hx hb dX7_word_50 (by decide) ?_
      exact tm_iret C0 (by rw [Option.some.inj h]) hP hS dX7_word_51
    · rw [if_neg c4] at h
      refine lv_iconst (v := 0) hx hb dX7_word_26 (by decide) ?_
      refine lv_istore_n (lv' := [(1, .int 0), (0, .ref (g.2.2 + 2))]) hx hb dX7_word_27 rfl hl (by decide) rfl (fun ls hl => ?_)
      refine w_X7_word_L28 C0 M _ r0 (fun v9 h H locs ls hP hS hl => ?_) 1000 0 h _ _ _ hP hS (lv_sub hl [1, 0] rfl)
      refine lv_iconst (v := (-1)) hx hb dX7_word_50 (by decide) ?_
      exact tm_iret C0 (by rw [Option.some.inj h]) hP hS dX7_word_51
/-! X9_outside -/
def f_X9_outside (p0 : Int32) (p1 : Int32) (p2 : Int32) : Option Int32 :=
  if p0 < p1 then
    some 1
  else
    if p0 ≤ p2 then
      some 0
    else
      some 1
set_option maxHeartbeats 4000000 in
set_option maxRecDepth 100000 in
theorem c_X9_outside (l : Launch) (g : tm_G) (A : Nat → Prop) (L : List Nat) (hD : ∀ M, va_D A (tm_ws g L M)) (hF : ∀ o, tm_all o → o ∈ L) (M : tm_M) (p0 : Int32) (p1 : Int32) (p2 : Int32) (r0 : Int32) (h : f_X9_outside p0 p1 p2 = some r0) : Met l yX9_outside wsX9_outside { frames := 0, cells := 0, slots := 0, locals := 0 } (tm_PC g A L M [.int p0, .int p1, .int p2]) (tm_QI g A L (r0, M)) 0 0 A := by
  refine tm_start (cc := cX9_outside) (nL := 3) (ret := (some .boolean)) (F := tm_all) (plainFor_of_name (by decide)) rfl (Nat.le_of_ble_eq_true rfl) hD hF (fun p e s m args below meth c ls C0 hP hS hl => ?_)
  have hl : lv_has ls 3 [(0, .int p0), (1, .int p1), (2, .int p2)] := hl
  have C0 : tm_C p m c cX9_outside 3 s args wsX9_outside RX9 meth (some .boolean) g A L tm_all := C0
  obtain ⟨⟨hx, hb, hml, hown, hts⟩, hr, hlk, hK, hD, hG, hF⟩ := id C0
  unfold f_X9_outside at h
  refine lv_iload_n hx hb dX9_outside_0 rfl (lv_at hl 0 rfl) ?_
  refine lv_iload_n hx hb dX9_outside_1 rfl (lv_at hl 1 rfl) ?_
  refine lv_icmp_lt (tgt := 10) hx hb dX9_outside_2 (by decide) (fun c1 => ?_) (fun c1 => ?_)
  · rw [if_pos c1] at h
    refine lv_iconst (v := 1) hx hb dX9_outside_10 (by decide) ?_
    refine lv_goto (tgt := 15) hx hb dX9_outside_11 (by decide) ?_
    exact tm_zret C0 (by unfold tm_isB; decide) (by rw [Option.some.inj h]) hP hS dX9_outside_15
  · rw [if_neg c1] at h
    refine lv_iload_n hx hb dX9_outside_5 rfl (lv_at hl 0 rfl) ?_
    refine lv_iload_n hx hb dX9_outside_6 rfl (lv_at hl 2 rfl) ?_
    refine lv_icmp_le (tgt := 14) hx hb dX9_outside_7 (by decide) (fun c2 => ?_) (fun c2 => ?_)
    · rw [if_pos c2] at h
      refine lv_iconst (v := 0) hx hb dX9_outside_14 (by decide) ?_
      exact tm_zret C0 (by unfold tm_isB; decide) (by rw [Option.some.inj h]) hP hS dX9_outside_15
    · rw [if_neg c2] at h
      refine lv_iconst (v := 1) hx hb dX9_outside_10 (by decide) ?_
      refine lv_goto (tgt := 15) hx hb dX9_outside_11 (by decide) ?_
      exact tm_zret C0 (by unfold tm_isB; decide) (by rw [Option.some.inj h]) hP hS dX9_outside_15
/-! X7_number -/
theorem nX7_number_X7 : ∀ w ∈ wsX70, w ∈ wsX7_number := by decide +kernel
theorem kX7_number_0 : Cond.fieldLink RX7 31 "QuarrelDesk$Text" "ends" "I" ∈ wsX7_number := by decide +kernel
theorem kX7_number_1 : Cond.fieldLink RX7 45 "QuarrelDesk$Text" "begins" "I" ∈ wsX7_number := by decide +kernel
theorem kX7_number_2 : Cond.initialized RX9 ∈ wsX7_number := by decide +kernel
theorem kX7_number_3 : Cond.static yX9_outside ∈ wsX7_number := by decide +kernel
def f_X7_number_L42 (k : Int32 → Int32 → Option (Int32 × tm_M)) (M : tm_M) (w1 : Int32) (w2 : Int32) (w3 : Int32) : Nat → Int32 → Int32 → Option (Int32 × tm_M)
  | 0, _, _ => none
  | n + 1, v4, v5 =>
    if (M 2 7) ≤ v5 then
      k v4 v5
    else
      (f_X7_letterAt M v5).bind fun r11 =>
      (some (((10 * v4) + r11) - 48)).bind fun x13 =>
      f_X7_number_L42 k M w1 w2 w3 n x13 (v5 + 1)
def f_X7_number (M : tm_M) (p1 : Int32) (p2 : Int32) : Option (Int32 × tm_M) :=
  (f_X7_nextToken M).bind fun M3 =>
  (some ((M3 2 7) - (M3 2 6))).bind fun x4 =>
  (f_X7_sortAt M3 (M3 2 6)).bind fun r5 =>
  if r5 = 2 then
    if x4 ≤ 2 then
      (some (M3 2 6)).bind fun x9 =>
      f_X7_number_L42 (fun v14 v15 =>
        (f_X9_outside v14 p1 p2).bind fun r16 =>
        if r16 = 0 then
          some (v14, M3)
        else
          some ((-1), M3)) M3 p1 p2 x4 1000 0 x9
    else
      some ((-1), M3)
  else
    some ((-1), M3)
set_option maxHeartbeats 4000000 in
set_option maxRecDepth 100000 in
theorem w_X7_number_L42 {p : Program} {l : Launch} {e : Env} {s : State} {m : MethodId} {args : Array Value} {below : List Frame} {meth : Method} {c : Code} {g : tm_G} {A : Nat → Prop} {L : List Nat} (C0 : tm_C p m c cX7_number 6 s args wsX7_number RX7 meth (some .int) g A L tm_all) (M : tm_M) (w1 : Int32) (w2 : Int32) (w3 : Int32) (k : Int32 → Int32 → Option (Int32 × tm_M)) (R0 : Int32 × tm_M) (hk : ∀ (v4 : Int32) (v5 : Int32), k v4 v5 = some R0 → ∀ (H : Heap) (locs : List Loc) (ls : Array Slot), va_P g.1 vwCl (tm_ws g L M) H → va_S A s.heap H locs → lv_has ls 6 [(0, .ref (g.2.2 + 2)), (1, .int w1), (2, .int w2), (3, .int w3), (4, .int v4), (5, .int v5)] → W p l e { frames := 3, cells := 0, slots := 0, locals := 64 } s m args below meth c H locs 0 0 (MQ below (tm_QI g A L R0) args s 0 0 A) (F0 m 74 ls [])) : ∀ (n : Nat) (v4 : Int32) (v5 : Int32), f_X7_number_L42 k M w1 w2 w3 n v4 v5 = some R0 → ∀ (H : Heap) (locs : List Loc) (ls : Array Slot), va_P g.1 vwCl (tm_ws g L M) H → va_S A s.heap H locs → lv_has ls 6 [(0, .ref (g.2.2 + 2)), (1, .int w1), (2, .int w2), (3, .int w3), (4, .int v4), (5, .int v5)] → W p l e { frames := 3, cells := 0, slots := 0, locals := 64 } s m args below meth c H locs 0 0 (MQ below (tm_QI g A L R0) args s 0 0 A) (F0 m 42 ls []) := by
  obtain ⟨⟨hx, hb, hml, hown, hts⟩, hr, hlk, hK, hD, hG, hF⟩ := id C0
  intro n
  induction n with
  | zero =>
    intro v4 v5 h
    simp [f_X7_number_L42] at h
  | succ n ih =>
    intro v4 v5 h H locs ls hP hS hl
    rw [f_X7_number_L42] at h
    refine lv_iload hx hb dX7_number_42 (lv_at hl 5 rfl) ?_
    refine lv_aload_n hx hb dX7_number_44 rfl (lv_at hl 0 rfl) ?_
    refine tm_get (C := RX7) (T := TX7) (N := 8) (v := .int (M 2 7)) hx hb hts nX7_number_X7 hown hK hP (hF 2 (by decide)) (tm_mkX7 (by decide) _) rfl 7 (by decide) (hts _ kX7_number_0) rfl dX7_number_45 ?_
    refine lv_icmp_ge (tgt := 74) hx hb dX7_number_48 (by decide) (fun c10 => ?_) (fun c10 => ?_)
    · rw [if_pos c10] at h
      exact hk v4 v5 h _ _ _ hP hS (lv_sub hl [0, 1, 2, 3, 4, 5] rfl)
    · rw [if_neg c10] at h
      refine lv_bipush (v := 10) hx hb dX7_number_51 (by decide) ?_
      refine lv_iload hx hb dX7_number_53 (lv_at hl 4 rfl) ?_
      refine lv_imul hx hb dX7_number_55 ?_
      refine lv_aload_n hx hb dX7_number_56 rfl (lv_at hl 0 rfl) ?_
      refine lv_iload hx hb dX7_number_57 (lv_at hl 5 rfl) ?_
      obtain ⟨r11, e12, h⟩ := tm_bd_some h
      refine tm_backI (r0 := r11) (M0 := M) (fun _ q => q) (tm_callV (As := [.int v5]) (rest := [.int (10 * v4)]) ⟨hx, hb, hml, hown, hts⟩ hK hG hP hS (c_X7_letterAt l g A L hD hF M v5 r11 e12) (cwV 1 hts gX7_number_X7_letterAt rfl rfl rfl (by decide +kernel) ⟨Nat.le_of_ble_eq_true rfl, Nat.le_of_ble_eq_true rfl⟩) (tm_recv hK hP (hF 2 (by decide)) (ci := 6) rfl (tm_mkX7 (by decide) _)) rfl hl.1 (lv_room (Nat.le_of_ble_eq_true rfl)) dX7_number_59 ⟨Nat.zero_le _, Nat.zero_le _⟩) hS (fun H locs hP hS => ?_)
      refine lv_iadd hx hb dX7_number_62 ?_
      refine lv_bipush (v := 48) hx hb dX7_number_63 (by decide) ?_
      refine lv_isub hx hb dX7_number_65 ?_
      refine tm_nam h (fun x13 h => ?_)
      refine lv_istore (lv' := [(4, .int x13), (0, .ref (g.2.2 + 2)), (1, .int w1), (2, .int w2), (3, .int w3), (5, .int v5)]) hx hb dX7_number_66 hl (by decide) rfl (fun ls hl => ?_)
      refine lv_iinc (v := v5 + 1) (lv' := [(5, .int (v5 + 1)), (4, .int x13), (0, .ref (g.2.2 + 2)), (1, .int w1), (2, .int w2), (3, .int w3)]) hx hb dX7_number_68 hl (k := 5) rfl rfl (by decide) rfl (fun ls hl => ?_)
      refine lv_goto (tgt := 42) hx hb dX7_number_71 (by decide) ?_
      exact ih x13 (v5 + 1) h _ _ _ hP hS (lv_sub hl [2, 3, 4, 5, 1, 0] rfl)
set_option maxHeartbeats 4000000 in
set_option maxRecDepth 100000 in
theorem c_X7_number (l : Launch) (g : tm_G) (A : Nat → Prop) (L : List Nat) (hD : ∀ M, va_D A (tm_ws g L M)) (hF : ∀ o, tm_all o → o ∈ L) (M : tm_M) (p1 : Int32) (p2 : Int32) (R0 : Int32 × tm_M) (h : f_X7_number M p1 p2 = some R0) : Met l yX7_number wsX7_number { frames := 3, cells := 0, slots := 0, locals := 64 } (tm_PC g A L M [.ref (g.2.2 + 2), .int p1, .int p2]) (tm_QI g A L R0) 0 0 A := by
  refine tm_start (cc := cX7_number) (nL := 6) (ret := (some .int)) (F := tm_all) (plainFor_of_name (by decide)) rfl (Nat.le_of_ble_eq_true rfl) hD hF (fun p e s m args below meth c ls C0 hP hS hl => ?_)
  have hl : lv_has ls 6 [(0, .ref (g.2.2 + 2)), (1, .int p1), (2, .int p2)] := hl
  have C0 : tm_C p m c cX7_number 6 s args wsX7_number RX7 meth (some .int) g A L tm_all := C0
  obtain ⟨⟨hx, hb, hml, hown, hts⟩, hr, hlk, hK, hD, hG, hF⟩ := id C0
  unfold f_X7_number at h
  refine lv_aload_n hx hb dX7_number_0 rfl (lv_at hl 0 rfl) ?_
  obtain ⟨M3, e2, h⟩ := tm_bd_some h
  refine tm_backV (M0 := M3) (fun _ q => q) (tm_callV (As := []) (rest := []) ⟨hx, hb, hml, hown, hts⟩ hK hG hP hS (c_X7_nextToken l g A L hD hF M M3 e2) (cwV 0 hts gX7_number_X7_nextToken rfl rfl rfl (by decide +kernel) ⟨Nat.le_of_ble_eq_true rfl, Nat.le_of_ble_eq_true rfl⟩) (tm_recv hK hP (hF 2 (by decide)) (ci := 6) rfl (tm_mkX7 (by decide) _)) rfl hl.1 (lv_room (Nat.le_of_ble_eq_true rfl)) dX7_number_1 ⟨Nat.zero_le _, Nat.zero_le _⟩) hS (fun H locs hP hS => ?_)
  refine lv_aload_n hx hb dX7_number_4 rfl (lv_at hl 0 rfl) ?_
  refine tm_get (C := RX7) (T := TX7) (N := 8) (v := .int (M3 2 7)) hx hb hts nX7_number_X7 hown hK hP (hF 2 (by decide)) (tm_mkX7 (by decide) _) rfl 7 (by decide) (hts _ kX7_number_0) rfl dX7_number_5 ?_
  refine lv_aload_n hx hb dX7_number_8 rfl (lv_at hl 0 rfl) ?_
  refine tm_get (C := RX7) (T := TX7) (N := 8) (v := .int (M3 2 6)) hx hb hts nX7_number_X7 hown hK hP (hF 2 (by decide)) (tm_mkX7 (by decide) _) rfl 6 (by decide) (hts _ kX7_number_1) rfl dX7_number_9 ?_
  refine lv_isub hx hb dX7_number_12 ?_
  refine tm_nam h (fun x4 h => ?_)
  refine lv_istore_n (lv' := [(3, .int x4), (0, .ref (g.2.2 + 2)), (1, .int p1), (2, .int p2)]) hx hb dX7_number_13 rfl hl (by decide) rfl (fun ls hl => ?_)
  refine lv_aload_n hx hb dX7_number_14 rfl (lv_at hl 1 rfl) ?_
  refine lv_aload_n hx hb dX7_number_15 rfl (lv_at hl 1 rfl) ?_
  refine tm_get (C := RX7) (T := TX7) (N := 8) (v := .int (M3 2 6)) hx hb hts nX7_number_X7 hown hK hP (hF 2 (by decide)) (tm_mkX7 (by decide) _) rfl 6 (by decide) (hts _ kX7_number_1) rfl dX7_number_16 ?_
  obtain ⟨r5, e6, h⟩ := tm_bd_some h
  refine tm_backI (r0 := r5) (M0 := M3) (fun _ q => q) (tm_callV (As := [.int (M3 2 6)]) (rest := []) ⟨hx, hb, hml, hown, hts⟩ hK hG hP hS (c_X7_sortAt l g A L hD hF M3 (M3 2 6) r5 e6) (cwV 1 hts gX7_number_X7_sortAt rfl rfl rfl (by decide +kernel) ⟨Nat.le_of_ble_eq_true rfl, Nat.le_of_ble_eq_true rfl⟩) (tm_recv hK hP (hF 2 (by decide)) (ci := 6) rfl (tm_mkX7 (by decide) _)) rfl hl.1 (lv_room (Nat.le_of_ble_eq_true rfl)) dX7_number_19 ⟨Nat.zero_le _, Nat.zero_le _⟩) hS (fun H locs hP hS => ?_)
  refine lv_iconst (v := 2) hx hb dX7_number_22 (by decide) ?_
  refine lv_icmp_ne (tgt := 31) hx hb dX7_number_23 (by decide) (fun c7 => ?_) (fun c7 => ?_)
  · rw [if_neg c7] at h
    refine lv_iconst (v := (-1)) hx hb dX7_number_31 (by decide) ?_
    exact tm_iret C0 (Option.some.inj h) hP hS dX7_number_32
  · rw [if_pos c7] at h
    refine lv_iload_n hx hb dX7_number_26 rfl (lv_at hl 0 rfl) ?_
    refine lv_iconst (v := 2) hx hb dX7_number_27 (by decide) ?_
    refine lv_icmp_le (tgt := 33) hx hb dX7_number_28 (by decide) (fun c8 => ?_) (fun c8 => ?_)
    · rw [if_pos c8] at h
      refine lv_iconst (v := 0) hx hb dX7_number_33 (by decide) ?_
      refine lv_istore (lv' := [(4, .int 0), (3, .int x4), (0, .ref (g.2.2 + 2)), (1, .int p1), (2, .int p2)]) hx hb dX7_number_34 hl (by decide) rfl (fun ls hl => ?_)
      refine lv_aload_n hx hb dX7_number_36 rfl (lv_at hl 2 rfl) ?_
      refine tm_get (C := RX7) (T := TX7) (N := 8) (v := .int (M3 2 6)) hx hb hts nX7_number_X7 hown hK hP (hF 2 (by decide)) (tm_mkX7 (by decide) _) rfl 6 (by decide) (hts _ kX7_number_1) rfl dX7_number_37 ?_
      refine tm_nam h (fun x9 h => ?_)
      refine lv_istore (lv' := [(5, .int x9), (4, .int 0), (3, .int x4), (0, .ref (g.2.2 + 2)), (1, .int p1), (2, .int p2)]) hx hb dX7_number_40 hl (by decide) rfl (fun ls hl => ?_)
      refine w_X7_number_L42 C0 M3 p1 p2 x4 _ R0 (fun v14 v15 h H locs ls hP hS hl => ?_) 1000 0 x9 h _ _ _ hP hS (lv_sub hl [3, 4, 5, 2, 1, 0] rfl)
      refine lv_iload hx hb dX7_number_74 (lv_at hl 4 rfl) ?_
      refine lv_iload_n hx hb dX7_number_76 rfl (lv_at hl 1 rfl) ?_
      refine lv_iload_n hx hb dX7_number_77 rfl (lv_at hl 2 rfl) ?_
      obtain ⟨r16, e17, h⟩ := tm_bd_some h
      refine tm_backI (r0 := r16) (M0 := M3) (fun _ q => q) (tm_callSN (As := [.int v14, .int p1, .int p2]) (rest := []) ⟨hx, hb, hml, hown, hts⟩ hK hG hP hS (c_X9_outside l g A L hD hF M3 v14 p1 p2 r16 e17) ⟨va_cnB 3 hts gX7_number_X9_outside_n69 rfl rfl rfl (hG.1 _ (List.mem_of_getElem? (i := 0) rfl)) (hts _ kX7_number_2) (by decide +kernel) ⟨Nat.le_of_ble_eq_true rfl, Nat.le_of_ble_eq_true rfl⟩, hts _ kX7_number_3, trivial⟩ rfl hl.1 (lv_room (Nat.le_of_ble_eq_true rfl)) dX7_number_78 ⟨Nat.zero_le _, Nat.zero_le _⟩) hS (fun H locs hP hS => ?_)
      refine lv_if_eq (tgt := 88) hx hb dX7_number_81 (by decide) (fun c18 => ?_) (fun c18 => ?_)
      · rw [if_pos c18] at h
        refine lv_iload hx hb dX7_number_88 (lv_at hl 4 rfl) ?_
        exact tm_iret C0 (Option.some.inj h) hP hS dX7_number_90
      · rw [if_neg c18] at h
        refine lv_iconst (v := (-1)) hx hb dX7_number_84 (by decide) ?_
        refine lv_goto (tgt := 90) hx hb dX7_number_85 (by decide) ?_
        exact tm_iret C0 (Option.some.inj h) hP hS dX7_number_90
    · rw [if_neg c8] at h
      refine lv_iconst (v := (-1)) hx hb dX7_number_31 (by decide) ?_
      exact tm_iret C0 (Option.some.inj h) hP hS dX7_number_32
/-! X7_readNumbers -/
theorem nX7_readNumbers_X7 : ∀ w ∈ wsX70, w ∈ wsX7_readNumbers := by decide +kernel
theorem kX7_readNumbers_0 : Cond.fieldLink RX7 18 "QuarrelDesk$Text" "firsts" "[I" ∈ wsX7_readNumbers := by decide +kernel
theorem kX7_readNumbers_1 : Cond.fieldLink RX7 21 "QuarrelDesk$Text" "seconds" "[I" ∈ wsX7_readNumbers := by decide +kernel
def f_X7_readNumbers (M : tm_M) (p1 : Int32) (p2 : Int32) : Option (Int32 × tm_M) :=
  if p2 = 0 then
    some (1, M)
  else
    (f_X7_isCouple p2).bind fun r2 =>
    if r2 = 0 then
      (some (p2 - 5)).bind fun x5 =>
      if x5 < 0 then
        some (0, M)
      else
        if x5 < 6 then
          (tm_rds tm_least 6 x5).bind fun x11 =>
          (tm_rds tm_most 6 x5).bind fun x16 =>
          (f_X7_number M x11 x16).bind fun r18 =>
          (tm_wr r18.2 5 14 p1 r18.1).bind fun M20 =>
          (tm_rd M20 5 14 p1).bind fun x22 =>
          if x22 = (-1) then
            some (0, M20)
          else
            some (1, M20)
        else
          some (0, M)
    else
      (f_X7_number M 1 9).bind fun r25 =>
      (tm_wr r25.2 5 14 p1 r25.1).bind fun M27 =>
      (tm_rd M27 5 14 p1).bind fun x29 =>
      if x29 = (-1) then
        some (0, M27)
      else
        (f_X7_number M27 0 99).bind fun r32 =>
        (tm_wr r32.2 6 14 p1 r32.1).bind fun M34 =>
        (tm_rd M34 6 14 p1).bind fun x36 =>
        if x36 = (-1) then
          some (0, M34)
        else
          some (1, M34)
set_option maxHeartbeats 4000000 in
set_option maxRecDepth 100000 in
theorem c_X7_readNumbers (l : Launch) (g : tm_G) (A : Nat → Prop) (L : List Nat) (hD : ∀ M, va_D A (tm_ws g L M)) (hF : ∀ o, tm_all o → o ∈ L) (M : tm_M) (p1 : Int32) (p2 : Int32) (R0 : Int32 × tm_M) (h : f_X7_readNumbers M p1 p2 = some R0) : Met l yX7_readNumbers wsX7_readNumbers { frames := 4, cells := 0, slots := 0, locals := 89 } (tm_PC g A L M [.ref (g.2.2 + 2), .int p1, .int p2]) (tm_QI g A L R0) 0 0 A := by
  refine tm_start (cc := cX7_readNumbers) (nL := 4) (ret := (some .boolean)) (F := tm_all) (plainFor_of_name (by decide)) rfl (Nat.le_of_ble_eq_true rfl) hD hF (fun p e s m args below meth c ls C0 hP hS hl => ?_)
  have hl : lv_has ls 4 [(0, .ref (g.2.2 + 2)), (1, .int p1), (2, .int p2)] := hl
  have C0 : tm_C p m c cX7_readNumbers 4 s args wsX7_readNumbers RX7 meth (some .boolean) g A L tm_all := C0
  obtain ⟨⟨hx, hb, hml, hown, hts⟩, hr, hlk, hK, hD, hG, hF⟩ := id C0
  unfold f_X7_readNumbers at h
  refine lv_iload_n hx hb dX7_readNumbers_0 rfl (lv_at hl 2 rfl) ?_
  refine lv_if_ne (tgt := 6) hx hb dX7_readNumbers_1 (by decide) (fun c1 => ?_) (fun c1 => ?_)
  · rw [if_neg c1] at h
    refine lv_iload_n hx hb dX7_readNumbers_6 rfl (lv_at hl 2 rfl) ?_
    obtain ⟨r2, e3, h⟩ := tm_bd_some h
    refine tm_backI (r0 := r2) (M0 := M) (fun _ q => q) (tm_callS (As := [.int p2]) (rest := []) ⟨hx, hb, hml, hown, hts⟩ hK hG hP hS (c_X7_isCouple l g A L hD hF M p2 r2 e3) (va_cwS 1 hts gX7_readNumbers_X7_isCouple rfl rfl rfl (by decide +kernel) ⟨Nat.le_of_ble_eq_true rfl, Nat.le_of_ble_eq_true rfl⟩) rfl hl.1 (lv_room (Nat.le_of_ble_eq_true rfl)) dX7_readNumbers_7 ⟨Nat.zero_le _, Nat.zero_le _⟩) hS (fun H locs hP hS => ?_)
    refine lv_if_eq (tgt := 67) hx hb dX7_readNumbers_10 (by decide) (fun c4 => ?_) (fun c4 => ?_)
    · rw [if_pos c4] at h
      refine lv_iload_n hx hb dX7_readNumbers_67 rfl (lv_at hl 2 rfl) ?_
      refine lv_iconst (v := 5) hx hb dX7_readNumbers_68 (by decide) ?_
      refine lv_isub hx hb dX7_readNumbers_69 ?_
      refine tm_nam h (fun x5 h => ?_)
      refine lv_istore_n (lv' := [(3, .int x5), (0, .ref (g.2.2 + 2)), (1, .int p1), (2, .int p2)]) hx hb dX7_readNumbers_70 rfl hl (by decide) rfl (fun ls hl => ?_)
      refine lv_iload_n hx hb dX7_readNumbers_71 rfl (lv_at hl 0 rfl) ?_
      refine lv_if_lt (tgt := 81) hx hb dX7_readNumbers_72 (by decide) (fun c6 => ?_) (fun c6 => ?_)
      · rw [if_pos c6] at h
        refine lv_iconst (v := 0) hx hb dX7_readNumbers_81 (by decide) ?_
        exact tm_zret C0 (by unfold tm_isB; decide) (Option.some.inj h) hP hS dX7_readNumbers_82
      · rw [if_neg c6] at h
        refine lv_iload_n hx hb dX7_readNumbers_75 rfl (lv_at hl 0 rfl) ?_
        refine lv_bipush (v := 6) hx hb dX7_readNumbers_76 (by decide) ?_
        refine lv_icmp_lt (tgt := 83) hx hb dX7_readNumbers_78 (by decide) (fun c7 => ?_) (fun c7 => ?_)
        · rw [if_pos c7] at h
          refine lv_aload_n hx hb dX7_readNumbers_83 rfl (lv_at hl 1 rfl) ?_
          refine tm_get (C := RX7) (T := TX7) (N := 8) (v := .ref (g.2.2 + 5)) hx hb hts nX7_readNumbers_X7 hown hK hP (hF 2 (by decide)) (tm_mkX7 (by decide) _) rfl 1 (by decide) (hts _ kX7_readNumbers_0) rfl dX7_readNumbers_84 ?_
          refine lv_iload_n hx hb dX7_readNumbers_87 rfl (lv_at hl 2 rfl) ?_
          refine lv_aload_n hx hb dX7_readNumbers_88 rfl (lv_at hl 1 rfl) ?_
          obtain ⟨t8, z9, z10⟩ := hG.2.2.2.2.2.2.1
          refine va_getsN hx hb z9 hS hown (va_Nw.use rfl hG.2.2.1) (fun _ h => h) dX7_readNumbers_89 ?_
          refine lv_iload_n hx hb dX7_readNumbers_92 rfl (lv_at hl 0 rfl) ?_
          obtain ⟨x11, e12, h⟩ := tm_bd_some h
          refine tm_ti hx hb z10 hS e12 dX7_readNumbers_93 ?_
          obtain ⟨t13, z14, z15⟩ := hG.2.2.2.2.2.2.2.1
          refine va_getsN hx hb z14 hS hown (va_Nw.use rfl hG.2.2.2.1) (fun _ h => h) dX7_readNumbers_94 ?_
          refine lv_iload_n hx hb dX7_readNumbers_97 rfl (lv_at hl 0 rfl) ?_
          obtain ⟨x16, e17, h⟩ := tm_bd_some h
          refine tm_ti hx hb z15 hS e17 dX7_readNumbers_98 ?_
          obtain ⟨r18, e19, h⟩ := tm_bd_some h
          refine tm_backI (r0 := r18.1) (M0 := r18.2) (fun _ q => q) (tm_callV (As := [.int x11, .int x16]) (rest := [.int p1, .ref (g.2.2 + 5)]) ⟨hx, hb, hml, hown, hts⟩ hK hG hP hS (c_X7_number l g A L hD hF M x11 x16 r18 e19) (cwV 2 hts gX7_readNumbers_X7_number rfl rfl rfl (by decide +kernel) ⟨Nat.le_of_ble_eq_true rfl, Nat.le_of_ble_eq_true rfl⟩) (tm_recv hK hP (hF 2 (by decide)) (ci := 6) rfl (tm_mkX7 (by decide) _)) rfl hl.1 (lv_room (Nat.le_of_ble_eq_true rfl)) dX7_readNumbers_99 ⟨Nat.zero_le _, Nat.zero_le _⟩) hS (fun H locs hP hS => ?_)
          obtain ⟨M20, e21, h⟩ := tm_bd_some h
          refine tm_iast hx hb hK hP hD hS (hF 5 (by decide)) (tm_mkI (n := 14) (by decide) (by decide)) e21 dX7_readNumbers_102 (fun H locs hP hS => ?_)
          refine lv_aload_n hx hb dX7_readNumbers_103 rfl (lv_at hl 1 rfl) ?_
          refine tm_get (C := RX7) (T := TX7) (N := 8) (v := .ref (g.2.2 + 5)) hx hb hts nX7_readNumbers_X7 hown hK hP (hF 2 (by decide)) (tm_mkX7 (by decide) _) rfl 1 (by decide) (hts _ kX7_readNumbers_0) rfl dX7_readNumbers_104 ?_
          refine lv_iload_n hx hb dX7_readNumbers_107 rfl (lv_at hl 2 rfl) ?_
          obtain ⟨x22, e23, h⟩ := tm_bd_some h
          refine tm_iald hx hb hK hP (hF 5 (by decide)) (tm_mkI (n := 14) (by decide) (by decide)) e23 dX7_readNumbers_108 ?_
          refine lv_iconst (v := (-1)) hx hb dX7_readNumbers_109 (by decide) ?_
          refine lv_icmp_eq (tgt := 117) hx hb dX7_readNumbers_110 (by decide) (fun c24 => ?_) (fun c24 => ?_)
          · rw [if_pos c24] at h
            refine lv_iconst (v := 0) hx hb dX7_readNumbers_117 (by decide) ?_
            exact tm_zret C0 (by unfold tm_isB; decide) (Option.some.inj h) hP hS dX7_readNumbers_118
          · rw [if_neg c24] at h
            refine lv_iconst (v := 1) hx hb dX7_readNumbers_113 (by decide) ?_
            refine lv_goto (tgt := 118) hx hb dX7_readNumbers_114 (by decide) ?_
            exact tm_zret C0 (by unfold tm_isB; decide) (Option.some.inj h) hP hS dX7_readNumbers_118
        · rw [if_neg c7] at h
          refine lv_iconst (v := 0) hx hb dX7_readNumbers_81 (by decide) ?_
          exact tm_zret C0 (by unfold tm_isB; decide) (Option.some.inj h) hP hS dX7_readNumbers_82
    · rw [if_neg c4] at h
      refine lv_aload_n hx hb dX7_readNumbers_13 rfl (lv_at hl 0 rfl) ?_
      refine tm_get (C := RX7) (T := TX7) (N := 8) (v := .ref (g.2.2 + 5)) hx hb hts nX7_readNumbers_X7 hown hK hP (hF 2 (by decide)) (tm_mkX7 (by decide) _) rfl 1 (by decide) (hts _ kX7_readNumbers_0) rfl dX7_readNumbers_14 ?_
      refine lv_iload_n hx hb dX7_readNumbers_17 rfl (lv_at hl 1 rfl) ?_
      refine lv_aload_n hx hb dX7_readNumbers_18 rfl (lv_at hl 0 rfl) ?_
      refine lv_iconst (v := 1) hx hb dX7_readNumbers_19 (by decide) ?_
      refine lv_bipush (v := 9) hx hb dX7_readNumbers_20 (by decide) ?_
      obtain ⟨r25, e26, h⟩ := tm_bd_some h
      refine tm_backI (r0 := r25.1) (M0 := r25.2) (fun _ q => q) (tm_callV (As := [.int 1, .int 9]) (rest := [.int p1, .ref (g.2.2 + 5)]) ⟨hx, hb, hml, hown, hts⟩ hK hG hP hS (c_X7_number l g A L hD hF M 1 9 r25 e26) (cwV 2 hts gX7_readNumbers_X7_number rfl rfl rfl (by decide +kernel) ⟨Nat.le_of_ble_eq_true rfl, Nat.le_of_ble_eq_true rfl⟩) (tm_recv hK hP (hF 2 (by decide)) (ci := 6) rfl (tm_mkX7 (by decide) _)) rfl hl.1 (lv_room (Nat.le_of_ble_eq_true rfl)) dX7_readNumbers_22 ⟨Nat.zero_le _, Nat.zero_le _⟩) hS (fun H locs hP hS => ?_)
      obtain ⟨M27, e28, h⟩ := tm_bd_some h
      refine tm_iast hx hb hK hP hD hS (hF 5 (by decide)) (tm_mkI (n := 14) (by decide) (by decide)) e28 dX7_readNumbers_25 (fun H locs hP hS => ?_)
      refine lv_aload_n hx hb dX7_readNumbers_26 rfl (lv_at hl 0 rfl) ?_
      refine tm_get (C := RX7) (T := TX7) (N := 8) (v := .ref (g.2.2 + 5)) hx hb hts nX7_readNumbers_X7 hown hK hP (hF 2 (by decide)) (tm_mkX7 (by decide) _) rfl 1 (by decide) (hts _ kX7_readNumbers_0) rfl dX7_readNumbers_27 ?_
      refine lv_iload_n hx hb dX7_readNumbers_30 rfl (lv_at hl 1 rfl) ?_
      obtain ⟨x29, e30, h⟩ := tm_bd_some h
      refine tm_iald hx hb hK hP (hF 5 (by decide)) (tm_mkI (n := 14) (by decide) (by decide)) e30 dX7_readNumbers_31 ?_
      refine lv_iconst (v := (-1)) hx hb dX7_readNumbers_32 (by decide) ?_
      refine lv_icmp_ne (tgt := 38) hx hb dX7_readNumbers_33 (by decide) (fun c31 => ?_) (fun c31 => ?_)
      · rw [if_neg c31] at h
        refine lv_aload_n hx hb dX7_readNumbers_38 rfl (lv_at hl 0 rfl) ?_
        refine tm_get (C := RX7) (T := TX7) (N := 8) (v := .ref (g.2.2 + 6)) hx hb hts nX7_readNumbers_X7 hown hK hP (hF 2 (by decide)) (tm_mkX7 (by decide) _) rfl 2 (by decide) (hts _ kX7_readNumbers_1) rfl dX7_readNumbers_39 ?_
        refine lv_iload_n hx hb dX7_readNumbers_42 rfl (lv_at hl 1 rfl) ?_
        refine lv_aload_n hx hb dX7_readNumbers_43 rfl (lv_at hl 0 rfl) ?_
        refine lv_iconst (v := 0) hx hb dX7_readNumbers_44 (by decide) ?_
        refine lv_bipush (v := 99) hx hb dX7_readNumbers_45 (by decide) ?_
        obtain ⟨r32, e33, h⟩ := tm_bd_some h
        refine tm_backI (r0 := r32.1) (M0 := r32.2) (fun _ q => q) (tm_callV (As := [.int 0, .int 99]) (rest := [.int p1, .ref (g.2.2 + 6)]) ⟨hx, hb, hml, hown, hts⟩ hK hG hP hS (c_X7_number l g A L hD hF M27 0 99 r32 e33) (cwV 2 hts gX7_readNumbers_X7_number rfl rfl rfl (by decide +kernel) ⟨Nat.le_of_ble_eq_true rfl, Nat.le_of_ble_eq_true rfl⟩) (tm_recv hK hP (hF 2 (by decide)) (ci := 6) rfl (tm_mkX7 (by decide) _)) rfl hl.1 (lv_room (Nat.le_of_ble_eq_true rfl)) dX7_readNumbers_47 ⟨Nat.zero_le _, Nat.zero_le _⟩) hS (fun H locs hP hS => ?_)
        obtain ⟨M34, e35, h⟩ := tm_bd_some h
        refine tm_iast hx hb hK hP hD hS (hF 6 (by decide)) (tm_mkI (n := 14) (by decide) (by decide)) e35 dX7_readNumbers_50 (fun H locs hP hS => ?_)
        refine lv_aload_n hx hb dX7_readNumbers_51 rfl (lv_at hl 0 rfl) ?_
        refine tm_get (C := RX7) (T := TX7) (N := 8) (v := .ref (g.2.2 + 6)) hx hb hts nX7_readNumbers_X7 hown hK hP (hF 2 (by decide)) (tm_mkX7 (by decide) _) rfl 2 (by decide) (hts _ kX7_readNumbers_1) rfl dX7_readNumbers_52 ?_
        refine lv_iload_n hx hb dX7_readNumbers_55 rfl (lv_at hl 1 rfl) ?_
        obtain ⟨x36, e37, h⟩ := tm_bd_some h
        refine tm_iald hx hb hK hP (hF 6 (by decide)) (tm_mkI (n := 14) (by decide) (by decide)) e37 dX7_readNumbers_56 ?_
        refine lv_iconst (v := (-1)) hx hb dX7_readNumbers_57 (by decide) ?_
        refine lv_icmp_eq (tgt := 65) hx hb dX7_readNumbers_58 (by decide) (fun c38 => ?_) (fun c38 => ?_)
        · rw [if_pos c38] at h
          refine lv_iconst (v := 0) hx hb dX7_readNumbers_65 (by decide) ?_
          exact tm_zret C0 (by unfold tm_isB; decide) (Option.some.inj h) hP hS dX7_readNumbers_66
        · rw [if_neg c38] at h
          refine lv_iconst (v := 1) hx hb dX7_readNumbers_61 (by decide) ?_
          refine lv_goto (tgt := 66) hx hb dX7_readNumbers_62 (by decide) ?_
          exact tm_zret C0 (by unfold tm_isB; decide) (Option.some.inj h) hP hS dX7_readNumbers_66
      · rw [if_pos c31] at h
        refine lv_iconst (v := 0) hx hb dX7_readNumbers_36 (by decide) ?_
        exact tm_zret C0 (by unfold tm_isB; decide) (Option.some.inj h) hP hS dX7_readNumbers_37
  · rw [if_pos c1] at h
    refine lv_iconst (v := 1) hx hb dX7_readNumbers_4 (by decide) ?_
    exact tm_zret C0 (by unfold tm_isB; decide) (Option.some.inj h) hP hS dX7_readNumbers_5
