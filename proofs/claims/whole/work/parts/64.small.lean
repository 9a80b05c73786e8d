/-! MAKING: the small constructors (written by program: wip/whole/gen/emitinit.py) -/
set_option maxHeartbeats 200000 in
set_option maxRecDepth 100000 in
theorem cz_X0_init (l : Launch) (g : tm_G) (A : Nat → Prop) (Y : va_W) (q h : Nat) (hA : ∀ r : Nat, h ≤ r → A r) : Met l yX0_init wsX0_init { frames := 1, cells := 0, slots := 0, locals := 12 } (va_Pc [.ref q] (cz_Z g A Y h)) (cz_Q g A Y h) 0 0 A := by
  refine cz_start (cc := cX0_init) (nL := 1) (by decide) rfl (Nat.le_of_ble_eq_true rfl) hA (fun p e s m args below meth c ls C0 hH hl => ?_)
  have hl : lv_has ls 1 [(0, .ref q)] := hl
  have C0 : cz_C p m c cX0_init 1 s args wsX0_init RX0 meth yX0_init g A := C0
  obtain ⟨⟨hx, hb, hml, hown, hts⟩, -, -, -, hG, -⟩ := id C0
  refine lv_aload_n hx hb dX0_init_0 rfl (lv_at hl 0 rfl) ?_
  refine W.objInit hx hb hown (hts (.methodLink RX0 1 objectInit) (by decide +kernel)) (hts (.instanceMethod objectInit) (by decide +kernel)) (hts _ (List.mem_of_getElem? (i := 3) rfl)) rfl (by rw [hml]; exact hl.1) rfl dX0_init_1 (Nat.le_of_ble_eq_true rfl) (Nat.le_of_ble_eq_true rfl) ?_
  refine W.eq (g2 := F0 m 4 ls []) rfl ?_
  exact cz_ret C0 hH dX0_init_4
set_option maxHeartbeats 200000 in
set_option maxRecDepth 100000 in
theorem cz_X2_init (l : Launch) (g : tm_G) (A : Nat → Prop) (Y : va_W) (q h : Nat) (hA : ∀ r : Nat, h ≤ r → A r) : Met l yX2_init wsX2_init { frames := 2, cells := 0, slots := 0, locals := 32 } (va_Pc [.ref q] (cz_Z g A Y h)) (cz_Q g A Y h) 0 0 A := by
  refine cz_start (cc := cX2_init) (nL := 1) (by decide) rfl (Nat.le_of_ble_eq_true rfl) hA (fun p e s m args below meth c ls C0 hH hl => ?_)
  have hl : lv_has ls 1 [(0, .ref q)] := hl
  have C0 : cz_C p m c cX2_init 1 s args wsX2_init RX2 meth yX2_init g A := C0
  obtain ⟨⟨hx, hb, hml, hown, hts⟩, -, -, -, hG, -⟩ := id C0
  refine lv_aload_n hx hb dX2_init_0 rfl (lv_at hl 0 rfl) ?_
  refine cz_iniN (X := []) (Y := Y) (Y' := Y) (As := []) (rest := []) (host := "QuarrelDesk") C0 hH (cz_X0_init l g A Y q h hA) rfl rfl ⟨va_cnB 0 hts gX2_init_X0_init_n1 rfl rfl rfl (hG.1 _ (List.mem_of_getElem? (i := 5) rfl)) (hts _ (by decide +kernel)) (by decide +kernel) ⟨Nat.le_of_ble_eq_true rfl, Nat.le_of_ble_eq_true rfl⟩, rfl, hts _ (by decide +kernel)⟩ rfl hl.1 (lv_room (Nat.le_of_ble_eq_true rfl)) dX2_init_1 ⟨Nat.zero_le _, Nat.zero_le _⟩ (fun H locs hH => ?_)
  exact cz_ret C0 hH dX2_init_4
set_option maxHeartbeats 200000 in
set_option maxRecDepth 100000 in
theorem cz_X3_init (l : Launch) (g : tm_G) (A : Nat → Prop) (Y : va_W) (q h : Nat) (hA : ∀ r : Nat, h ≤ r → A r) : Met l yX3_init wsX3_init { frames := 3, cells := 0, slots := 0, locals := 52 } (va_Pc [.ref q] (cz_Z g A Y h)) (cz_Q g A Y h) 0 0 A := by
  refine cz_start (cc := cX3_init) (nL := 1) (by decide) rfl (Nat.le_of_ble_eq_true rfl) hA (fun p e s m args below meth c ls C0 hH hl => ?_)
  have hl : lv_has ls 1 [(0, .ref q)] := hl
  have C0 : cz_C p m c cX3_init 1 s args wsX3_init RX3 meth yX3_init g A := C0
  obtain ⟨⟨hx, hb, hml, hown, hts⟩, -, -, -, hG, -⟩ := id C0
  refine lv_aload_n hx hb dX3_init_0 rfl (lv_at hl 0 rfl) ?_
  refine cz_iniN (X := []) (Y := Y) (Y' := Y) (As := []) (rest := []) (host := "QuarrelDesk") C0 hH (cz_X2_init l g A Y q h hA) rfl rfl ⟨va_cnB 0 hts gX3_init_X2_init_n1 rfl rfl rfl (hG.1 _ (List.mem_of_getElem? (i := 6) rfl)) (hts _ (by decide +kernel)) (by decide +kernel) ⟨Nat.le_of_ble_eq_true rfl, Nat.le_of_ble_eq_true rfl⟩, rfl, hts _ (by decide +kernel)⟩ rfl hl.1 (lv_room (Nat.le_of_ble_eq_true rfl)) dX3_init_1 ⟨Nat.zero_le _, Nat.zero_le _⟩ (fun H locs hH => ?_)
  exact cz_ret C0 hH dX3_init_4
set_option maxHeartbeats 200000 in
set_option maxRecDepth 100000 in
theorem cz_X5_init (l : Launch) (g : tm_G) (A : Nat → Prop) (Y : va_W) (q h : Nat) (hA : ∀ r : Nat, h ≤ r → A r) : Met l yX5_init wsX5_init { frames := 3, cells := 0, slots := 0, locals := 52 } (va_Pc [.ref q] (cz_Z g A Y h)) (cz_Q g A Y h) 0 0 A := by
  refine cz_start (cc := cX5_init) (nL := 1) (by decide) rfl (Nat.le_of_ble_eq_true rfl) hA (fun p e s m args below meth c ls C0 hH hl => ?_)
  have hl : lv_has ls 1 [(0, .ref q)] := hl
  have C0 : cz_C p m c cX5_init 1 s args wsX5_init RX5 meth yX5_init g A := C0
  obtain ⟨⟨hx, hb, hml, hown, hts⟩, -, -, -, hG, -⟩ := id C0
  refine lv_aload_n hx hb dX5_init_0 rfl (lv_at hl 0 rfl) ?_
  refine cz_iniN (X := []) (Y := Y) (Y' := Y) (As := []) (rest := []) (host := "QuarrelDesk") C0 hH (cz_X2_init l g A Y q h hA) rfl rfl ⟨va_cnB 0 hts gX5_init_X2_init_n1 rfl rfl rfl (hG.1 _ (List.mem_of_getElem? (i := 8) rfl)) (hts _ (by decide +kernel)) (by decide +kernel) ⟨Nat.le_of_ble_eq_true rfl, Nat.le_of_ble_eq_true rfl⟩, rfl, hts _ (by decide +kernel)⟩ rfl hl.1 (lv_room (Nat.le_of_ble_eq_true rfl)) dX5_init_1 ⟨Nat.zero_le _, Nat.zero_le _⟩ (fun H locs hH => ?_)
  exact cz_ret C0 hH dX5_init_4
set_option maxHeartbeats 200000 in
set_option maxRecDepth 100000 in
theorem cz_X4_init (l : Launch) (g : tm_G) (A : Nat → Prop) (Y : va_W) (q h : Nat) (hA : ∀ r : Nat, h ≤ r → A r) : Met l yX4_init wsX4_init { frames := 2, cells := 0, slots := 0, locals := 32 } (va_Pc [.ref q] (cz_Z g A Y h)) (cz_Q g A Y h) 0 0 A := by
  refine cz_start (cc := cX4_init) (nL := 1) (by decide) rfl (Nat.le_of_ble_eq_true rfl) hA (fun p e s m args below meth c ls C0 hH hl => ?_)
  have hl : lv_has ls 1 [(0, .ref q)] := hl
  have C0 : cz_C p m c cX4_init 1 s args wsX4_init RX4 meth yX4_init g A := C0
  obtain ⟨⟨hx, hb, hml, hown, hts⟩, -, -, -, hG, -⟩ := id C0
  refine lv_aload_n hx hb dX4_init_0 rfl (lv_at hl 0 rfl) ?_
  refine cz_iniN (X := []) (Y := Y) (Y' := Y) (As := []) (rest := []) (host := "QuarrelDesk") C0 hH (cz_X0_init l g A Y q h hA) rfl rfl ⟨va_cnB 0 hts gX4_init_X0_init_n1 rfl rfl rfl (hG.1 _ (List.mem_of_getElem? (i := 7) rfl)) (hts _ (by decide +kernel)) (by decide +kernel) ⟨Nat.le_of_ble_eq_true rfl, Nat.le_of_ble_eq_true rfl⟩, rfl, hts _ (by decide +kernel)⟩ rfl hl.1 (lv_room (Nat.le_of_ble_eq_true rfl)) dX4_init_1 ⟨Nat.zero_le _, Nat.zero_le _⟩ (fun H locs hH => ?_)
  exact cz_ret C0 hH dX4_init_4
