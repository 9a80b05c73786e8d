/-! MAKING: the small constructors (written by program: wip/whole/gen/emitinit.py) -/
set_option maxHeartbeats 400000 in
set_option maxRecDepth 100000 in
theorem cz_X0_init (l : Launch) (g : tm_G) (A : Nat → Prop) (Y : va_W) (q h : Nat) (hA : ∀ r : Nat, h ≤ r → A r) : Met l yX0_init wsX0_init { frames := 1, cells := 0, slots := 0, locals := 12 } (va_Pc [.ref q] (cz_Z g A Y h)) (cz_Q g A Y h) 0 0 A := by
  refine cz_start (cc := cX0_init) (nL := 1) (by decide +kernel) rfl (Nat.le_of_ble_eq_true rfl) hA (fun p e s m args below meth c ls C0 hH hl => ?_)
  have hl : lv_has ls 1 [(0, .ref q)] := hl
  have C0 : cz_C p m c cX0_init 1 s args wsX0_init RX0 meth yX0_init g A := C0
  obtain ⟨⟨hx, hb, hml, hown, hts⟩, -, -, -, hG, -⟩ := id C0
  refine lv_aload_n hx hb dX0_init_0 rfl (lv_at hl 0 rfl) ?_
  refine W.objInit hx hb hown (hts (.methodLink RX0 1 objectInit) (by decide +kernel)) (hts (.instanceMethod objectInit) (by decide +kernel)) (hts _ (List.mem_of_getElem? (i := 3) rfl)) rfl (by rw [hml]; exact hl.1) rfl dX0_init_1 (Nat.le_of_ble_eq_true rfl) (Nat.le_of_ble_eq_true rfl) ?_
  refine W.eq (g2 := F0 m 4 ls []) rfl ?_
  exact cz_ret C0 hH dX0_init_4
set_option maxHeartbeats 400000 in
set_option maxRecDepth 100000 in
theorem cz_X2_init (l : Launch) (g : tm_G) (A : Nat → Prop) (Y : va_W) (q h : Nat) (hA : ∀ r : Nat, h ≤ r → A r) : Met l yX2_init wsX2_init { frames := 2, cells := 0, slots := 0, locals := 32 } (va_Pc [.ref q] (cz_Z g A Y h)) (cz_Q g A Y h) 0 0 A := by
  refine cz_start (cc := cX2_init) (nL := 1) (by decide +kernel) rfl (Nat.le_of_ble_eq_true rfl) hA (fun p e s m args below meth c ls C0 hH hl => ?_)
  have hl : lv_has ls 1 [(0, .ref q)] := hl
  have C0 : cz_C p m c cX2_init 1 s args wsX2_init RX2 meth yX2_init g A := C0
  obtain ⟨⟨hx, hb, hml, hown, hts⟩, -, -, -, hG, -⟩ := id C0
  refine lv_aload_n hx hb dX2_init_0 rfl (lv_at hl 0 rfl) ?_
  refine cz_iniN (X := []) (Y := Y) (Y' := Y) (As := []) (rest := []) (host := "QuarrelDesk") C0 hH (cz_X0_init l g A Y q h hA) rfl rfl ⟨va_cnB 0 hts gX2_init_X0_init_n1 rfl rfl rfl (hG.1 (RX2, 1, yX0_init, "QuarrelDesk") (List.mem_of_getElem? (i := 5) rfl)) (hts (.initialized RX0) (by decide +kernel)) (by decide +kernel) ⟨Nat.le_of_ble_eq_true rfl, Nat.le_of_ble_eq_true rfl⟩, rfl, hts (.instanceMethod yX0_init) (by decide +kernel)⟩ rfl hl.1 (lv_room (Nat.le_of_ble_eq_true rfl)) dX2_init_1 ⟨Nat.zero_le _, Nat.zero_le _⟩ (fun H locs hH => ?_)
  exact cz_ret C0 hH dX2_init_4
set_option maxHeartbeats 400000 in
set_option maxRecDepth 100000 in
theorem cz_X3_init (l : Launch) (g : tm_G) (A : Nat → Prop) (Y : va_W) (q h : Nat) (hA : ∀ r : Nat, h ≤ r → A r) : Met l yX3_init wsX3_init { frames := 3, cells := 0, slots := 0, locals := 52 } (va_Pc [.ref q] (cz_Z g A Y h)) (cz_Q g A Y h) 0 0 A := by
  refine cz_start (cc := cX3_init) (nL := 1) (by decide +kernel) rfl (Nat.le_of_ble_eq_true rfl) hA (fun p e s m args below meth c ls C0 hH hl => ?_)
  have hl : lv_has ls 1 [(0, .ref q)] := hl
  have C0 : cz_C p m c cX3_init 1 s args wsX3_init RX3 meth yX3_init g A := C0
  obtain ⟨⟨hx, hb, hml, hown, hts⟩, -, -, -, hG, -⟩ := id C0
  refine lv_aload_n hx hb dX3_init_0 rfl (lv_at hl 0 rfl) ?_
  refine cz_iniN (X := []) (Y := Y) (Y' := Y) (As := []) (rest := []) (host := "QuarrelDesk") C0 hH (cz_X2_init l g A Y q h hA) rfl rfl ⟨va_cnB 0 hts gX3_init_X2_init_n1 rfl rfl rfl (hG.1 (RX3, 1, yX2_init, "QuarrelDesk") (List.mem_of_getElem? (i := 6) rfl)) (hts (.initialized RX2) (by decide +kernel)) (by decide +kernel) ⟨Nat.le_of_ble_eq_true rfl, Nat.le_of_ble_eq_true rfl⟩, rfl, hts (.instanceMethod yX2_init) (by decide +kernel)⟩ rfl hl.1 (lv_room (Nat.le_of_ble_eq_true rfl)) dX3_init_1 ⟨Nat.zero_le _, Nat.zero_le _⟩ (fun H locs hH => ?_)
  exact cz_ret C0 hH dX3_init_4
set_option maxHeartbeats 400000 in
set_option maxRecDepth 100000 in
theorem cz_X5_init (l : Launch) (g : tm_G) (A : Nat → Prop) (Y : va_W) (q h : Nat) (hA : ∀ r : Nat, h ≤ r → A r) : Met l yX5_init wsX5_init { frames := 3, cells := 0, slots := 0, locals := 52 } (va_Pc [.ref q] (cz_Z g A Y h)) (cz_Q g A Y h) 0 0 A := by
  refine cz_start (cc := cX5_init) (nL := 1) (by decide +kernel) rfl (Nat.le_of_ble_eq_true rfl) hA (fun p e s m args below meth c ls C0 hH hl => ?_)
  have hl : lv_has ls 1 [(0, .ref q)] := hl
  have C0 : cz_C p m c cX5_init 1 s args wsX5_init RX5 meth yX5_init g A := C0
  obtain ⟨⟨hx, hb, hml, hown, hts⟩, -, -, -, hG, -⟩ := id C0
  refine lv_aload_n hx hb dX5_init_0 rfl (lv_at hl 0 rfl) ?_
  refine cz_iniN (X := []) (Y := Y) (Y' := Y) (As := []) (rest := []) (host := "QuarrelDesk") C0 hH (cz_X2_init l g A Y q h hA) rfl rfl ⟨va_cnB 0 hts gX5_init_X2_init_n1 rfl rfl rfl (hG.1 (RX5, 1, yX2_init, "QuarrelDesk") (List.mem_of_getElem? (i := 8) rfl)) (hts (.initialized RX2) (by decide +kernel)) (by decide +kernel) ⟨Nat.le_of_ble_eq_true rfl, Nat.le_of_ble_eq_true rfl⟩, rfl, hts (.instanceMethod yX2_init) (by decide +kernel)⟩ rfl hl.1 (lv_room (Nat.le_of_ble_eq_true rfl)) dX5_init_1 ⟨Nat.zero_le _, Nat.zero_le _⟩ (fun H locs hH => ?_)
  exact cz_ret C0 hH dX5_init_4
set_option maxHeartbeats 400000 in
set_option maxRecDepth 100000 in
theorem cz_X4_init (l : Launch) (g : tm_G) (A : Nat → Prop) (Y : va_W) (q h : Nat) (hA : ∀ r : Nat, h ≤ r → A r) : Met l yX4_init wsX4_init { frames := 2, cells := 0, slots := 0, locals := 32 } (va_Pc [.ref q] (cz_Z g A Y h)) (cz_Q g A Y h) 0 0 A := by
  refine cz_start (cc := cX4_init) (nL := 1) (by decide +kernel) rfl (Nat.le_of_ble_eq_true rfl) hA (fun p e s m args below meth c ls C0 hH hl => ?_)
  have hl : lv_has ls 1 [(0, .ref q)] := hl
  have C0 : cz_C p m c cX4_init 1 s args wsX4_init RX4 meth yX4_init g A := C0
  obtain ⟨⟨hx, hb, hml, hown, hts⟩, -, -, -, hG, -⟩ := id C0
  refine lv_aload_n hx hb dX4_init_0 rfl (lv_at hl 0 rfl) ?_
  refine cz_iniN (X := []) (Y := Y) (Y' := Y) (As := []) (rest := []) (host := "QuarrelDesk") C0 hH (cz_X0_init l g A Y q h hA) rfl rfl ⟨va_cnB 0 hts gX4_init_X0_init_n1 rfl rfl rfl (hG.1 (RX4, 1, yX0_init, "QuarrelDesk") (List.mem_of_getElem? (i := 7) rfl)) (hts (.initialized RX0) (by decide +kernel)) (by decide +kernel) ⟨Nat.le_of_ble_eq_true rfl, Nat.le_of_ble_eq_true rfl⟩, rfl, hts (.instanceMethod yX0_init) (by decide +kernel)⟩ rfl hl.1 (lv_room (Nat.le_of_ble_eq_true rfl)) dX4_init_1 ⟨Nat.zero_le _, Nat.zero_le _⟩ (fun H locs hH => ?_)
  exact cz_ret C0 hH dX4_init_4
set_option maxHeartbeats 400000 in
set_option maxRecDepth 100000 in
theorem cz_X6_clear (l : Launch) (g : tm_G) (A : Nat → Prop) (X : va_W) (h : Nat) (q : Nat) (hA : ∀ r : Nat, h ≤ r → A r) : Met l yX6_clear wsX6_clear { frames := 0, cells := 0, slots := 0, locals := 0 } (va_Pc [.ref q] (cz_Z g A (X ++ [(q, .inr (5, [.int 0, .int 0, .int 0, .int 0, .int 0, .int 0]))]) h)) (cz_Q g A (X ++ [(q, .inr (5, [.int 5, .int 40, .int 2, .int 12, .int 30, .int 6]))]) (h)) 0 0 A := by
  refine cz_start (cc := cX6_clear) (nL := 1) (plainFor_of_name (by decide)) rfl (Nat.le_of_ble_eq_true rfl) hA (fun p e s m args below meth c ls C0 hH hl => ?_)
  have hl : lv_has ls 1 [(0, .ref q)] := hl
  have C0 : cz_C p m c cX6_clear 1 s args wsX6_clear RX6 meth yX6_clear g A := C0
  obtain ⟨⟨hx, hb, hml, hown, hts⟩, -⟩ := id C0
  refine lv_aload_n hx hb dX6_clear_0 rfl (lv_at hl 0 rfl) ?_
  refine lv_iconst (v := 5) hx hb dX6_clear_1 (by decide) ?_
  refine cz_put (X := X) (Y' := [(q, .inr (5, [.int 5, .int 0, .int 0, .int 0, .int 0, .int 0]))]) (C := RX6) (T := TX6) (N := 6) (ty := .int) C0 nX6_clear_X6 tyX6 tyX6_ok nmX6 hH 0 rfl rfl 0 (by decide) (by decide +kernel) rfl (Or.inl rfl) (by decide +kernel) rfl rfl (Nat.le_of_ble_eq_true rfl) rfl dX6_clear_2 (fun H locs hH => ?_)
  refine lv_aload_n hx hb dX6_clear_5 rfl (lv_at hl 0 rfl) ?_
  refine lv_bipush (v := 40) hx hb dX6_clear_6 (by decide) ?_
  refine cz_put (X := X) (Y' := [(q, .inr (5, [.int 5, .int 40, .int 0, .int 0, .int 0, .int 0]))]) (C := RX6) (T := TX6) (N := 6) (ty := .int) C0 nX6_clear_X6 tyX6 tyX6_ok nmX6 hH 0 rfl rfl 1 (by decide) (by decide +kernel) rfl (Or.inl rfl) (by decide +kernel) rfl rfl (Nat.le_of_ble_eq_true rfl) rfl dX6_clear_8 (fun H locs hH => ?_)
  refine lv_aload_n hx hb dX6_clear_11 rfl (lv_at hl 0 rfl) ?_
  refine lv_iconst (v := 2) hx hb dX6_clear_12 (by decide) ?_
  refine cz_put (X := X) (Y' := [(q, .inr (5, [.int 5, .int 40, .int 2, .int 0, .int 0, .int 0]))]) (C := RX6) (T := TX6) (N := 6) (ty := .int) C0 nX6_clear_X6 tyX6 tyX6_ok nmX6 hH 0 rfl rfl 2 (by decide) (by decide +kernel) rfl (Or.inl rfl) (by decide +kernel) rfl rfl (Nat.le_of_ble_eq_true rfl) rfl dX6_clear_13 (fun H locs hH => ?_)
  refine lv_aload_n hx hb dX6_clear_16 rfl (lv_at hl 0 rfl) ?_
  refine lv_bipush (v := 12) hx hb dX6_clear_17 (by decide) ?_
  refine cz_put (X := X) (Y' := [(q, .inr (5, [.int 5, .int 40, .int 2, .int 12, .int 0, .int 0]))]) (C := RX6) (T := TX6) (N := 6) (ty := .int) C0 nX6_clear_X6 tyX6 tyX6_ok nmX6 hH 0 rfl rfl 3 (by decide) (by decide +kernel) rfl (Or.inl rfl) (by decide +kernel) rfl rfl (Nat.le_of_ble_eq_true rfl) rfl dX6_clear_19 (fun H locs hH => ?_)
  refine lv_aload_n hx hb dX6_clear_22 rfl (lv_at hl 0 rfl) ?_
  refine lv_bipush (v := 30) hx hb dX6_clear_23 (by decide) ?_
  refine cz_put (X := X) (Y' := [(q, .inr (5, [.int 5, .int 40, .int 2, .int 12, .int 30, .int 0]))]) (C := RX6) (T := TX6) (N := 6) (ty := .int) C0 nX6_clear_X6 tyX6 tyX6_ok nmX6 hH 0 rfl rfl 4 (by decide) (by decide +kernel) rfl (Or.inl rfl) (by decide +kernel) rfl rfl (Nat.le_of_ble_eq_true rfl) rfl dX6_clear_25 (fun H locs hH => ?_)
  refine lv_aload_n hx hb dX6_clear_28 rfl (lv_at hl 0 rfl) ?_
  refine lv_bipush (v := 6) hx hb dX6_clear_29 (by decide) ?_
  refine cz_put (X := X) (Y' := [(q, .inr (5, [.int 5, .int 40, .int 2, .int 12, .int 30, .int 6]))]) (C := RX6) (T := TX6) (N := 6) (ty := .int) C0 nX6_clear_X6 tyX6 tyX6_ok nmX6 hH 0 rfl rfl 5 (by decide) (by decide +kernel) rfl (Or.inl rfl) (by decide +kernel) rfl rfl (Nat.le_of_ble_eq_true rfl) rfl dX6_clear_31 (fun H locs hH => ?_)
  exact cz_ret C0 hH dX6_clear_34
set_option maxHeartbeats 400000 in
set_option maxRecDepth 100000 in
theorem cz_X1_begin (l : Launch) (g : tm_G) (A : Nat → Prop) (X : va_W) (h : Nat) (q b : Nat) (v w : Int32) (hA : ∀ r : Nat, h ≤ r → A r) : Met l yX1_begin wsX1_begin { frames := 0, cells := 0, slots := 0, locals := 0 } (va_Pc [.ref q, .ref b, .int v, .int w] (cz_Z g A (X ++ [(q, .inr (0, [.null, .int 0, .int 0, .int 0, .int 0, .int 0, .int 0, .int 0, .int 0, .int 0, .int 0, .int 0]))]) h)) (cz_Q g A (X ++ [(q, .inr (0, [.ref b, .int v, .int w, .int 0, .int 0, .int 0, .int 0, .int 0, .int 0, .int 0, .int (-1), .int 0]))]) (h)) 0 0 A := by
  refine cz_start (cc := cX1_begin) (nL := 4) (plainFor_of_name (by decide)) rfl (Nat.le_of_ble_eq_true rfl) hA (fun p e s m args below meth c ls C0 hH hl => ?_)
  have hl : lv_has ls 4 [(0, .ref q), (1, .ref b), (2, .int v), (3, .int w)] := hl
  have C0 : cz_C p m c cX1_begin 4 s args wsX1_begin RX1 meth yX1_begin g A := C0
  obtain ⟨⟨hx, hb, hml, hown, hts⟩, -⟩ := id C0
  refine lv_aload_n hx hb dX1_begin_0 rfl (lv_at hl 0 rfl) ?_
  refine lv_aload_n hx hb dX1_begin_1 rfl (lv_at hl 1 rfl) ?_
  refine cz_put (X := X) (Y' := [(q, .inr (0, [.ref b, .int 0, .int 0, .int 0, .int 0, .int 0, .int 0, .int 0, .int 0, .int 0, .int 0, .int 0]))]) (C := RX1) (T := TX1) (N := 12) (ty := (.object "QuarrelDesk$Couple")) C0 nX1_begin_X1 tyX1 tyX1_ok nmX1 hH 0 rfl rfl 0 (by decide) (by decide +kernel) rfl (Or.inl rfl) (by decide +kernel) rfl rfl (Nat.le_of_ble_eq_true rfl) rfl dX1_begin_2 (fun H locs hH => ?_)
  refine lv_aload_n hx hb dX1_begin_5 rfl (lv_at hl 0 rfl) ?_
  refine lv_iload_n hx hb dX1_begin_6 rfl (lv_at hl 2 rfl) ?_
  refine cz_put (X := X) (Y' := [(q, .inr (0, [.ref b, .int v, .int 0, .int 0, .int 0, .int 0, .int 0, .int 0, .int 0, .int 0, .int 0, .int 0]))]) (C := RX1) (T := TX1) (N := 12) (ty := .int) C0 nX1_begin_X1 tyX1 tyX1_ok nmX1 hH 0 rfl rfl 1 (by decide) (by decide +kernel) rfl (Or.inl rfl) (by decide +kernel) rfl rfl (Nat.le_of_ble_eq_true rfl) rfl dX1_begin_7 (fun H locs hH => ?_)
  refine lv_aload_n hx hb dX1_begin_10 rfl (lv_at hl 0 rfl) ?_
  refine lv_iload_n hx hb dX1_begin_11 rfl (lv_at hl 3 rfl) ?_
  refine cz_put (X := X) (Y' := [(q, .inr (0, [.ref b, .int v, .int w, .int 0, .int 0, .int 0, .int 0, .int 0, .int 0, .int 0, .int 0, .int 0]))]) (C := RX1) (T := TX1) (N := 12) (ty := .int) C0 nX1_begin_X1 tyX1 tyX1_ok nmX1 hH 0 rfl rfl 2 (by decide) (by decide +kernel) rfl (Or.inl rfl) (by decide +kernel) rfl rfl (Nat.le_of_ble_eq_true rfl) rfl dX1_begin_12 (fun H locs hH => ?_)
  refine lv_aload_n hx hb dX1_begin_15 rfl (lv_at hl 0 rfl) ?_
  refine lv_iconst (v := 0) hx hb dX1_begin_16 (by decide) ?_
  refine cz_put (X := X) (Y' := [(q, .inr (0, [.ref b, .int v, .int w, .int 0, .int 0, .int 0, .int 0, .int 0, .int 0, .int 0, .int 0, .int 0]))]) (C := RX1) (T := TX1) (N := 12) (ty := .int) C0 nX1_begin_X1 tyX1 tyX1_ok nmX1 hH 0 rfl rfl 3 (by decide) (by decide +kernel) rfl (Or.inl rfl) (by decide +kernel) rfl rfl (Nat.le_of_ble_eq_true rfl) rfl dX1_begin_17 (fun H locs hH => ?_)
  refine lv_aload_n hx hb dX1_begin_20 rfl (lv_at hl 0 rfl) ?_
  refine lv_iconst (v := 0) hx hb dX1_begin_21 (by decide) ?_
  refine cz_put (X := X) (Y' := [(q, .inr (0, [.ref b, .int v, .int w, .int 0, .int 0, .int 0, .int 0, .int 0, .int 0, .int 0, .int 0, .int 0]))]) (C := RX1) (T := TX1) (N := 12) (ty := .boolean) C0 nX1_begin_X1 tyX1 tyX1_ok nmX1 hH 0 rfl rfl 4 (by decide) (by decide +kernel) rfl (Or.inl rfl) (by decide +kernel) rfl rfl (Nat.le_of_ble_eq_true rfl) rfl dX1_begin_22 (fun H locs hH => ?_)
  refine lv_aload_n hx hb dX1_begin_25 rfl (lv_at hl 0 rfl) ?_
  refine lv_iconst (v := 0) hx hb dX1_begin_26 (by decide) ?_
  refine cz_put (X := X) (Y' := [(q, .inr (0, [.ref b, .int v, .int w, .int 0, .int 0, .int 0, .int 0, .int 0, .int 0, .int 0, .int 0, .int 0]))]) (C := RX1) (T := TX1) (N := 12) (ty := .int) C0 nX1_begin_X1 tyX1 tyX1_ok nmX1 hH 0 rfl rfl 5 (by decide) (by decide +kernel) rfl (Or.inl rfl) (by decide +kernel) rfl rfl (Nat.le_of_ble_eq_true rfl) rfl dX1_begin_27 (fun H locs hH => ?_)
  refine lv_aload_n hx hb dX1_begin_30 rfl (lv_at hl 0 rfl) ?_
  refine lv_iconst (v := 0) hx hb dX1_begin_31 (by decide) ?_
  refine cz_put (X := X) (Y' := [(q, .inr (0, [.ref b, .int v, .int w, .int 0, .int 0, .int 0, .int 0, .int 0, .int 0, .int 0, .int 0, .int 0]))]) (C := RX1) (T := TX1) (N := 12) (ty := .int) C0 nX1_begin_X1 tyX1 tyX1_ok nmX1 hH 0 rfl rfl 6 (by decide) (by decide +kernel) rfl (Or.inl rfl) (by decide +kernel) rfl rfl (Nat.le_of_ble_eq_true rfl) rfl dX1_begin_32 (fun H locs hH => ?_)
  refine lv_aload_n hx hb dX1_begin_35 rfl (lv_at hl 0 rfl) ?_
  refine lv_iconst (v := 0) hx hb dX1_begin_36 (by decide) ?_
  refine cz_put (X := X) (Y' := [(q, .inr (0, [.ref b, .int v, .int w, .int 0, .int 0, .int 0, .int 0, .int 0, .int 0, .int 0, .int 0, .int 0]))]) (C := RX1) (T := TX1) (N := 12) (ty := .int) C0 nX1_begin_X1 tyX1 tyX1_ok nmX1 hH 0 rfl rfl 7 (by decide) (by decide +kernel) rfl (Or.inl rfl) (by decide +kernel) rfl rfl (Nat.le_of_ble_eq_true rfl) rfl dX1_begin_37 (fun H locs hH => ?_)
  refine lv_aload_n hx hb dX1_begin_40 rfl (lv_at hl 0 rfl) ?_
  refine lv_iconst (v := 0) hx hb dX1_begin_41 (by decide) ?_
  refine cz_put (X := X) (Y' := [(q, .inr (0, [.ref b, .int v, .int w, .int 0, .int 0, .int 0, .int 0, .int 0, .int 0, .int 0, .int 0, .int 0]))]) (C := RX1) (T := TX1) (N := 12) (ty := .int) C0 nX1_begin_X1 tyX1 tyX1_ok nmX1 hH 0 rfl rfl 8 (by decide) (by decide +kernel) rfl (Or.inl rfl) (by decide +kernel) rfl rfl (Nat.le_of_ble_eq_true rfl) rfl dX1_begin_42 (fun H locs hH => ?_)
  refine lv_aload_n hx hb dX1_begin_45 rfl (lv_at hl 0 rfl) ?_
  refine lv_iconst (v := 0) hx hb dX1_begin_46 (by decide) ?_
  refine cz_put (X := X) (Y' := [(q, .inr (0, [.ref b, .int v, .int w, .int 0, .int 0, .int 0, .int 0, .int 0, .int 0, .int 0, .int 0, .int 0]))]) (C := RX1) (T := TX1) (N := 12) (ty := .int) C0 nX1_begin_X1 tyX1 tyX1_ok nmX1 hH 0 rfl rfl 9 (by decide) (by decide +kernel) rfl (Or.inl rfl) (by decide +kernel) rfl rfl (Nat.le_of_ble_eq_true rfl) rfl dX1_begin_47 (fun H locs hH => ?_)
  refine lv_aload_n hx hb dX1_begin_50 rfl (lv_at hl 0 rfl) ?_
  refine lv_iconst (v := (-1)) hx hb dX1_begin_51 (by decide) ?_
  refine cz_put (X := X) (Y' := [(q, .inr (0, [.ref b, .int v, .int w, .int 0, .int 0, .int 0, .int 0, .int 0, .int 0, .int 0, .int (-1), .int 0]))]) (C := RX1) (T := TX1) (N := 12) (ty := .int) C0 nX1_begin_X1 tyX1 tyX1_ok nmX1 hH 0 rfl rfl 10 (by decide) (by decide +kernel) rfl (Or.inl rfl) (by decide +kernel) rfl rfl (Nat.le_of_ble_eq_true rfl) rfl dX1_begin_52 (fun H locs hH => ?_)
  refine lv_aload_n hx hb dX1_begin_55 rfl (lv_at hl 0 rfl) ?_
  refine lv_iconst (v := 0) hx hb dX1_begin_56 (by decide) ?_
  refine cz_put (X := X) (Y' := [(q, .inr (0, [.ref b, .int v, .int w, .int 0, .int 0, .int 0, .int 0, .int 0, .int 0, .int 0, .int (-1), .int 0]))]) (C := RX1) (T := TX1) (N := 12) (ty := .boolean) C0 nX1_begin_X1 tyX1 tyX1_ok nmX1 hH 0 rfl rfl 11 (by decide) (by decide +kernel) rfl (Or.inl rfl) (by decide +kernel) rfl rfl (Nat.le_of_ble_eq_true rfl) rfl dX1_begin_57 (fun H locs hH => ?_)
  exact cz_ret C0 hH dX1_begin_60
set_option maxHeartbeats 400000 in
set_option maxRecDepth 100000 in
theorem cz_X6_init (l : Launch) (g : tm_G) (A : Nat → Prop) (X : va_W) (h : Nat) (q : Nat) (hA : ∀ r : Nat, h ≤ r → A r) : Met l yX6_init wsX6_init { frames := 1, cells := 0, slots := 0, locals := 20 } (va_Pc [.ref q] (cz_Z g A (X ++ [(q, .inr (5, [.int 0, .int 0, .int 0, .int 0, .int 0, .int 0]))]) h)) (cz_Q g A (X ++ [(q, .inr (5, [.int 5, .int 40, .int 2, .int 12, .int 30, .int 6]))]) (h)) 0 0 A := by
  refine cz_start (cc := cX6_init) (nL := 1) (by decide +kernel) rfl (Nat.le_of_ble_eq_true rfl) hA (fun p e s m args below meth c ls C0 hH hl => ?_)
  have hl : lv_has ls 1 [(0, .ref q)] := hl
  have C0 : cz_C p m c cX6_init 1 s args wsX6_init RX6 meth yX6_init g A := C0
  obtain ⟨⟨hx, hb, hml, hown, hts⟩, -⟩ := id C0
  refine lv_aload_n hx hb dX6_init_0 rfl (lv_at hl 0 rfl) ?_
  refine W.objInit hx hb hown (hts (.methodLink RX6 1 objectInit) (by decide +kernel)) (hts (.instanceMethod objectInit) (by decide +kernel)) (hts _ (List.mem_of_getElem? (i := 3) rfl)) rfl (by rw [hml]; exact hl.1) rfl dX6_init_1 (Nat.le_of_ble_eq_true rfl) (Nat.le_of_ble_eq_true rfl) ?_
  refine W.eq (g2 := F0 m 4 ls []) rfl ?_
  refine lv_aload_n hx hb dX6_init_4 rfl (lv_at hl 0 rfl) ?_
  refine cz_vir (X := X) (Y' := [(q, .inr (5, [.int 5, .int 40, .int 2, .int 12, .int 30, .int 6]))]) (As := []) (rest := []) C0 hH (cz_X6_clear l g A X h q hA) rfl rfl (cwV 0 hts gX6_init_X6_clear rfl rfl rfl (by decide +kernel) ⟨Nat.le_of_ble_eq_true rfl, Nat.le_of_ble_eq_true rfl⟩) 0 rfl (ci := 5) rfl rfl rfl hl.1 (lv_room (Nat.le_of_ble_eq_true rfl)) dX6_init_5 ⟨Nat.zero_le _, Nat.zero_le _⟩ (fun H locs hH => ?_)
  exact cz_ret C0 hH dX6_init_8
set_option maxHeartbeats 400000 in
set_option maxRecDepth 100000 in
theorem cz_X1_init (l : Launch) (g : tm_G) (A : Nat → Prop) (X : va_W) (h : Nat) (q b : Nat) (hA : ∀ r : Nat, h ≤ r → A r) : Met l yX1_init wsX1_init { frames := 1, cells := 0, slots := 0, locals := 23 } (va_Pc [.ref q, .ref b] (cz_Z g A (X ++ [(q, .inr (0, [.null, .int 0, .int 0, .int 0, .int 0, .int 0, .int 0, .int 0, .int 0, .int 0, .int 0, .int 0]))]) h)) (cz_Q g A (X ++ [(q, .inr (0, [.ref b, .int 1, .int 0, .int 0, .int 0, .int 0, .int 0, .int 0, .int 0, .int 0, .int (-1), .int 0]))]) (h)) 0 0 A := by
  refine cz_start (cc := cX1_init) (nL := 2) (by decide +kernel) rfl (Nat.le_of_ble_eq_true rfl) hA (fun p e s m args below meth c ls C0 hH hl => ?_)
  have hl : lv_has ls 2 [(0, .ref q), (1, .ref b)] := hl
  have C0 : cz_C p m c cX1_init 2 s args wsX1_init RX1 meth yX1_init g A := C0
  obtain ⟨⟨hx, hb, hml, hown, hts⟩, -⟩ := id C0
  refine lv_aload_n hx hb dX1_init_0 rfl (lv_at hl 0 rfl) ?_
  refine W.objInit hx hb hown (hts (.methodLink RX1 3 objectInit) (by decide +kernel)) (hts (.instanceMethod objectInit) (by decide +kernel)) (hts _ (List.mem_of_getElem? (i := 3) rfl)) rfl (by rw [hml]; exact hl.1) rfl dX1_init_1 (Nat.le_of_ble_eq_true rfl) (Nat.le_of_ble_eq_true rfl) ?_
  refine W.eq (g2 := F0 m 4 ls []) rfl ?_
  refine lv_aload_n hx hb dX1_init_4 rfl (lv_at hl 0 rfl) ?_
  refine lv_aload_n hx hb dX1_init_5 rfl (lv_at hl 1 rfl) ?_
  refine lv_iconst (v := 1) hx hb dX1_init_6 (by decide) ?_
  refine lv_iconst (v := 0) hx hb dX1_init_7 (by decide) ?_
  refine cz_vir (X := X) (Y' := [(q, .inr (0, [.ref b, .int 1, .int 0, .int 0, .int 0, .int 0, .int 0, .int 0, .int 0, .int 0, .int (-1), .int 0]))]) (As := [.ref b, .int 1, .int 0]) (rest := []) C0 hH (cz_X1_begin l g A X h q b 1 0 hA) rfl rfl (cwV 3 hts gX1_init_X1_begin rfl rfl rfl (by decide +kernel) ⟨Nat.le_of_ble_eq_true rfl, Nat.le_of_ble_eq_true rfl⟩) 0 rfl (ci := 0) rfl rfl rfl hl.1 (lv_room (Nat.le_of_ble_eq_true rfl)) dX1_init_8 ⟨Nat.zero_le _, Nat.zero_le _⟩ (fun H locs hH => ?_)
  exact cz_ret C0 hH dX1_init_11
theorem nX7_init_X7 : ∀ w ∈ wsX70, w ∈ wsX7_init := by decide +kernel
set_option maxHeartbeats 400000 in
set_option maxRecDepth 100000 in
theorem cz_X7_init (l : Launch) (g : tm_G) (A : Nat → Prop) (X : va_W) (h : Nat) (q : Nat) (hA : ∀ r : Nat, h ≤ r → A r) : Met l yX7_init wsX7_init { frames := 1, cells := 4, slots := 202, locals := 12 } (va_Pc [.ref q] (cz_Z g A (X ++ [(q, .inr (6, [.null, .null, .null, .int 0, .int 0, .null, .int 0, .int 0]))]) h)) (cz_Q g A (X ++ [(q, .inr (6, [.ref (h + 1), .ref (h + 2), .ref (h + 3), .int 0, .int 0, .ref h, .int 0, .int 0])), (h, .inl (g.2.1 0, 160, .inl (fun _ => 0))), ((h + 1), .inl (g.2.1 0, 14, .inl (fun _ => 0))), ((h + 2), .inl (g.2.1 0, 14, .inl (fun _ => 0))), ((h + 3), .inl (g.2.1 0, 14, .inl (fun _ => 0)))]) (h + 4)) 4 202 A := by
  refine cz_start (cc := cX7_init) (nL := 1) (by decide +kernel) rfl (Nat.le_of_ble_eq_true rfl) hA (fun p e s m args below meth c ls C0 hH hl => ?_)
  have hl : lv_has ls 1 [(0, .ref q)] := hl
  have C0 : cz_C p m c cX7_init 1 s args wsX7_init RX7 meth yX7_init g A := C0
  obtain ⟨⟨hx, hb, hml, hown, hts⟩, -⟩ := id C0
  refine lv_aload_n hx hb dX7_init_0 rfl (lv_at hl 0 rfl) ?_
  refine W.objInit hx hb hown (hts (.methodLink RX7 3 objectInit) (by decide +kernel)) (hts (.instanceMethod objectInit) (by decide +kernel)) (hts _ (List.mem_of_getElem? (i := 3) rfl)) rfl (by rw [hml]; exact hl.1) rfl dX7_init_1 (Nat.le_of_ble_eq_true rfl) (Nat.le_of_ble_eq_true rfl) ?_
  refine W.eq (g2 := F0 m 4 ls []) rfl ?_
  refine lv_aload_n hx hb dX7_init_4 rfl (lv_at hl 0 rfl) ?_
  refine lv_sipush (v := 160) hx hb dX7_init_5 (by decide) ?_
  refine cz_newi (X := X) (Y' := [(q, .inr (6, [.null, .null, .null, .int 0, .int 0, .null, .int 0, .int 0])), (h, .inl (g.2.1 0, 160, .inl (fun _ => 0)))]) (N' := 160) C0 hH (by decide +kernel) (by decide) (by decide) (by decide) (Nat.le_of_ble_eq_true rfl) (Nat.le_of_ble_eq_true rfl) dX7_init_8 rfl (fun H hH => ?_)
  have hH : cz_H g A (X ++ [(q, .inr (6, [.null, .null, .null, .int 0, .int 0, .null, .int 0, .int 0])), (h, .inl (g.2.1 0, 160, .inl (fun _ => 0)))]) (h + 1) s.heap H [] := hH
  refine cz_put (X := X) (Y' := [(q, .inr (6, [.null, .null, .null, .int 0, .int 0, .ref h, .int 0, .int 0])), (h, .inl (g.2.1 0, 160, .inl (fun _ => 0)))]) (C := RX7) (T := TX7) (N := 8) (ty := (.array .int)) C0 nX7_init_X7 tyX7 tyX7_ok nmX7 hH 0 rfl rfl 5 (by decide) (by decide +kernel) rfl (Or.inr ⟨rfl, rfl, rfl⟩) (by decide +kernel) rfl rfl (Nat.le_of_ble_eq_true rfl) rfl dX7_init_10 (fun H locs hH => ?_)
  refine lv_aload_n hx hb dX7_init_13 rfl (lv_at hl 0 rfl) ?_
  refine lv_bipush (v := 14) hx hb dX7_init_14 (by decide) ?_
  refine cz_newi (X := X) (Y' := [(q, .inr (6, [.null, .null, .null, .int 0, .int 0, .ref h, .int 0, .int 0])), (h, .inl (g.2.1 0, 160, .inl (fun _ => 0))), ((h + 1), .inl (g.2.1 0, 14, .inl (fun _ => 0)))]) (N' := 14) C0 hH (by decide +kernel) (by decide) (by decide) (by decide) (Nat.le_of_ble_eq_true rfl) (Nat.le_of_ble_eq_true rfl) dX7_init_16 rfl (fun H hH => ?_)
  have hH : cz_H g A (X ++ [(q, .inr (6, [.null, .null, .null, .int 0, .int 0, .ref h, .int 0, .int 0])), (h, .inl (g.2.1 0, 160, .inl (fun _ => 0))), ((h + 1), .inl (g.2.1 0, 14, .inl (fun _ => 0)))]) (h + 2) s.heap H locs := hH
  refine cz_put (X := X) (Y' := [(q, .inr (6, [.ref (h + 1), .null, .null, .int 0, .int 0, .ref h, .int 0, .int 0])), (h, .inl (g.2.1 0, 160, .inl (fun _ => 0))), ((h + 1), .inl (g.2.1 0, 14, .inl (fun _ => 0)))]) (C := RX7) (T := TX7) (N := 8) (ty := (.array .int)) C0 nX7_init_X7 tyX7 tyX7_ok nmX7 hH 0 rfl rfl 0 (by decide) (by decide +kernel) rfl (Or.inr ⟨rfl, rfl, rfl⟩) (by decide +kernel) rfl rfl (Nat.le_of_ble_eq_true rfl) rfl dX7_init_18 (fun H locs hH => ?_)
  refine lv_aload_n hx hb dX7_init_21 rfl (lv_at hl 0 rfl) ?_
  refine lv_bipush (v := 14) hx hb dX7_init_22 (by decide) ?_
  refine cz_newi (X := X) (Y' := [(q, .inr (6, [.ref (h + 1), .null, .null, .int 0, .int 0, .ref h, .int 0, .int 0])), (h, .inl (g.2.1 0, 160, .inl (fun _ => 0))), ((h + 1), .inl (g.2.1 0, 14, .inl (fun _ => 0))), ((h + 2), .inl (g.2.1 0, 14, .inl (fun _ => 0)))]) (N' := 14) C0 hH (by decide +kernel) (by decide) (by decide) (by decide) (Nat.le_of_ble_eq_true rfl) (Nat.le_of_ble_eq_true rfl) dX7_init_24 rfl (fun H hH => ?_)
  have hH : cz_H g A (X ++ [(q, .inr (6, [.ref (h + 1), .null, .null, .int 0, .int 0, .ref h, .int 0, .int 0])), (h, .inl (g.2.1 0, 160, .inl (fun _ => 0))), ((h + 1), .inl (g.2.1 0, 14, .inl (fun _ => 0))), ((h + 2), .inl (g.2.1 0, 14, .inl (fun _ => 0)))]) (h + 3) s.heap H locs := hH
  refine cz_put (X := X) (Y' := [(q, .inr (6, [.ref (h + 1), .ref (h + 2), .null, .int 0, .int 0, .ref h, .int 0, .int 0])), (h, .inl (g.2.1 0, 160, .inl (fun _ => 0))), ((h + 1), .inl (g.2.1 0, 14, .inl (fun _ => 0))), ((h + 2), .inl (g.2.1 0, 14, .inl (fun _ => 0)))]) (C := RX7) (T := TX7) (N := 8) (ty := (.array .int)) C0 nX7_init_X7 tyX7 tyX7_ok nmX7 hH 0 rfl rfl 1 (by decide) (by decide +kernel) rfl (Or.inr ⟨rfl, rfl, rfl⟩) (by decide +kernel) rfl rfl (Nat.le_of_ble_eq_true rfl) rfl dX7_init_26 (fun H locs hH => ?_)
  refine lv_aload_n hx hb dX7_init_29 rfl (lv_at hl 0 rfl) ?_
  refine lv_bipush (v := 14) hx hb dX7_init_30 (by decide) ?_
  refine cz_newi (X := X) (Y' := [(q, .inr (6, [.ref (h + 1), .ref (h + 2), .null, .int 0, .int 0, .ref h, .int 0, .int 0])), (h, .inl (g.2.1 0, 160, .inl (fun _ => 0))), ((h + 1), .inl (g.2.1 0, 14, .inl (fun _ => 0))), ((h + 2), .inl (g.2.1 0, 14, .inl (fun _ => 0))), ((h + 3), .inl (g.2.1 0, 14, .inl (fun _ => 0)))]) (N' := 14) C0 hH (by decide +kernel) (by decide) (by decide) (by decide) (Nat.le_of_ble_eq_true rfl) (Nat.le_of_ble_eq_true rfl) dX7_init_32 rfl (fun H hH => ?_)
  have hH : cz_H g A (X ++ [(q, .inr (6, [.ref (h + 1), .ref (h + 2), .null, .int 0, .int 0, .ref h, .int 0, .int 0])), (h, .inl (g.2.1 0, 160, .inl (fun _ => 0))), ((h + 1), .inl (g.2.1 0, 14, .inl (fun _ => 0))), ((h + 2), .inl (g.2.1 0, 14, .inl (fun _ => 0))), ((h + 3), .inl (g.2.1 0, 14, .inl (fun _ => 0)))]) (h + 4) s.heap H locs := hH
  refine cz_put (X := X) (Y' := [(q, .inr (6, [.ref (h + 1), .ref (h + 2), .ref (h + 3), .int 0, .int 0, .ref h, .int 0, .int 0])), (h, .inl (g.2.1 0, 160, .inl (fun _ => 0))), ((h + 1), .inl (g.2.1 0, 14, .inl (fun _ => 0))), ((h + 2), .inl (g.2.1 0, 14, .inl (fun _ => 0))), ((h + 3), .inl (g.2.1 0, 14, .inl (fun _ => 0)))]) (C := RX7) (T := TX7) (N := 8) (ty := (.array .int)) C0 nX7_init_X7 tyX7 tyX7_ok nmX7 hH 0 rfl rfl 2 (by decide) (by decide +kernel) rfl (Or.inr ⟨rfl, rfl, rfl⟩) (by decide +kernel) rfl rfl (Nat.le_of_ble_eq_true rfl) rfl dX7_init_34 (fun H locs hH => ?_)
  exact cz_ret C0 hH dX7_init_37
