/-! MAKING: QuarrelDeskModel() whole, with its first laying of the desk -/
def cz_N : tm_M := fun o => if o = 128 then cz_fi cz_l128 77 else if o = 129 then cz_fi cz_l129 6 else if o = 130 then cz_fi cz_l130 6 else if o = 131 then cz_fi cz_l131 6 else if o = 137 then cz_fi cz_l137 6 else cz_M o
theorem cz_NM {o : Nat} (h : o < 127) : cz_N o = cz_M o := by
  unfold cz_N
  rw [if_neg (by omega), if_neg (by omega), if_neg (by omega), if_neg (by omega), if_neg (by omega)]
theorem cz_low (g : tm_G) : tm_ws g (List.range 127) cz_M = tm_ws g (List.range' 0 127) cz_N := by
  rw [List.range_eq_range']
  unfold tm_ws
  refine List.map_congr_left (fun o ho => ?_)
  rw [List.mem_range'_1] at ho
  rw [cz_NM (by omega)]
theorem cz_Dws {g : tm_G} {A : Nat → Prop} {L : List Nat} {M : tm_M} (h : va_D A (tm_ws g L M)) (N : tm_M) : va_D A (tm_ws g L N) := by
  have key : ∀ (k : Nat) (q : Nat × va_E), (tm_ws g L N)[k]? = some q → ∃ q', (tm_ws g L M)[k]? = some q' ∧ q'.1 = q.1 := by
    intro k q hq
    unfold tm_ws at hq ⊢
    rw [List.getElem?_map] at hq ⊢
    cases hL : L[k]? with
    | none => rw [hL] at hq; cases hq
    | some o => rw [hL] at hq; cases hq; exact ⟨_, rfl, rfl⟩
  refine ⟨fun i j p q hi hj e => ?_, fun k q hq => ?_⟩
  · obtain ⟨p', hp, ep⟩ := key i p hi
    obtain ⟨q', hq, eq⟩ := key j q hj
    exact h.1 i j p' q' hp hq (by rw [ep, eq, e])
  · obtain ⟨q', hq', e⟩ := key k q hq
    rw [← e]
    exact h.2 k q' hq'
set_option maxHeartbeats 4000000 in
set_option maxRecDepth 100000 in
theorem cz_X10_init (l : Launch) (g : tm_G) (A : Nat → Prop) (hA : ∀ r : Nat, g.2.2 + 128 ≤ r → A r) (M0 : tm_M) (h0 : f_X10_layDesk cz_N = some M0) : Met l yX10_init wsX10_init { frames := 1, cells := 15, slots := 1055, locals := 21 } (va_Pc [.ref (g.2.2 + 127)] (cz_Z g A (tm_ws g (List.range 127) cz_M ++ [(g.2.2 + 127, .inr (9, [.null, .null, .null, .null, .null, .int 0, .null, .int 0, .null, .null, .null, .null, .null, .int 0, .null, .int 0, .int 0, .int 0, .int 0, .null, .null, .int 0, .null]))]) (g.2.2 + 128))) (va_Qv (fun _ : Unit => True) (fun _ t => tm_Z g A (List.range 143) M0 t ∧ ∀ M, va_D A (tm_ws g (List.range 143) M)) A) 15 1055 A := by
  refine cz_start (cc := cX10_init) (nL := 1) (by decide +kernel) rfl (Nat.le_of_ble_eq_true rfl) hA (fun p e s m args below meth c ls C0 hH hl => ?_)
  have hl : lv_has ls 1 [(0, .ref (g.2.2 + 127))] := hl
  have C0 : cz_C p m c cX10_init 1 s args wsX10_init RX10 meth yX10_init g A := C0
  obtain ⟨⟨hx, hb, hml, hown, hts⟩, hr, hlocks, hK, hG, -, -, -⟩ := id C0
  refine cz_X10_a (Nat.le_of_ble_eq_true rfl) (Nat.le_of_ble_eq_true rfl) (Nat.le_of_ble_eq_true rfl) (Nat.le_of_ble_eq_true rfl) hl C0 hH (fun H locs hH => ?_)
  obtain ⟨hz, hP, hD, hS⟩ := hH
  rw [show (tm_ws g (List.range 127) cz_M ++ [((g.2.2 + 127), .inr (9, [.ref (g.2.2 + 128), .ref (g.2.2 + 129), .ref (g.2.2 + 130), .ref (g.2.2 + 131), .ref (g.2.2 + 132), .int 0, .ref (g.2.2 + 133), .int 0, .ref (g.2.2 + 134), .ref (g.2.2 + 135), .ref (g.2.2 + 136), .ref (g.2.2 + 137), .ref (g.2.2 + 138), .int 0, .ref (g.2.2 + 139), .int 0, .int 0, .int 0, .int 0, .ref (g.2.2 + 140), .ref (g.2.2 + 141), .int 0, .ref (g.2.2 + 142)])), ((g.2.2 + 128), .inl (g.2.1 0, 77, .inl (cz_fi cz_l128 77))), ((g.2.2 + 129), .inl (g.2.1 0, 6, .inl (cz_fi cz_l129 6))), ((g.2.2 + 130), .inl (g.2.1 0, 6, .inl (cz_fi cz_l130 6))), ((g.2.2 + 131), .inl (g.2.1 0, 6, .inl (cz_fi cz_l131 6))), ((g.2.2 + 132), .inl (g.2.1 0, 672, .inl (fun _ => 0))), ((g.2.2 + 133), .inl (g.2.1 1, 2, .inl (fun _ => 0))), ((g.2.2 + 134), .inl (g.2.1 0, 6, .inl (fun _ => 0))), ((g.2.2 + 135), .inl (g.2.1 0, 6, .inl (fun _ => 0))), ((g.2.2 + 136), .inl (g.2.1 0, 6, .inl (fun _ => 0))), ((g.2.2 + 137), .inl (g.2.1 0, 6, .inl (cz_fi cz_l137 6))), ((g.2.2 + 138), .inl (g.2.1 0, 160, .inl (fun _ => 0))), ((g.2.2 + 139), .inl (g.2.1 0, 18, .inl (fun _ => 0))), ((g.2.2 + 140), .inl (g.2.1 0, 18, .inl (fun _ => 0))), ((g.2.2 + 141), .inl (g.2.1 0, 6, .inl (fun _ => 0))), ((g.2.2 + 142), .inl (g.2.1 0, 60, .inl (fun _ => 0)))]) = tm_ws g (List.range 143) cz_N from by
    rw [cz_low, List.range_eq_range']
    refine Eq.trans ?_ (cz_ap g 0 127 16 cz_N)
    rfl] at hP hD
  have hF : ∀ o, tm_all o → o ∈ List.range 143 := fun o ho => List.mem_range.mpr ho
  refine lv_aload_n hx hb dX10_init_672 rfl (lv_at hl 0 rfl) ?_
  refine tm_backV (M0 := M0) (fun _ q => q) (tm_callV (As := []) (rest := []) ⟨hx, hb, hml, hown, hts⟩ hK hG hP hS (c_X10_layDesk l g A (List.range 143) (cz_Dws hD) hF cz_N M0 h0) (cwV 0 hts gX10_init_X10_layDesk rfl rfl rfl (by decide +kernel) ⟨Nat.le_of_ble_eq_true rfl, Nat.le_of_ble_eq_true rfl⟩) (tm_recv hK hP (hF 127 (by decide)) (ci := 9) rfl (tm_mkX10 (by decide) _)) rfl hl.1 (lv_room (Nat.le_of_ble_eq_true rfl)) dX10_init_673 ⟨Nat.le_of_ble_eq_true rfl, Nat.le_of_ble_eq_true rfl⟩) hS (fun H locs hP hS => ?_)
  exact W.vret hx hb hr (fun t ht hW => ⟨⟨(), rfl, trivial, tm_Z.at hP hK hG hS ht hW, cz_Dws hD⟩, hS.F ht⟩) hS.2.2 dX10_init_676
