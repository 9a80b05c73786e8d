/-! MAKING: Year() -/
theorem nX8_init_X6 : ∀ w ∈ wsX60, w ∈ wsX8_init := by decide +kernel
theorem nX8_init_X8 : ∀ w ∈ wsX80, w ∈ wsX8_init := by decide +kernel
theorem nX8_init_X1 : ∀ w ∈ wsX10, w ∈ wsX8_init := by decide +kernel
set_option maxHeartbeats 1000000 in
set_option maxRecDepth 100000 in
theorem cz_X8_init (l : Launch) (g : tm_G) (A : Nat → Prop) (X : va_W) (o : Nat) (hy : cz_isY o) (hA : ∀ r : Nat, g.2.2 + (o + 1) ≤ r → A r) : Met l yX8_init wsX8_init { frames := 2, cells := 8, slots := 84, locals := 44 } (va_Pc [.ref (g.2.2 + o), .ref (g.2.2 + 1)] (cz_Z g A (X ++ [(g.2.2 + o, .inr (7, [.null, .null, .int 0, .int 0]))]) (g.2.2 + (o + 1)))) (cz_Q g A (X ++ tm_ws g (List.range' o 9) cz_M) (g.2.2 + (o + 9))) 8 84 A := by
  refine cz_start (cc := cX8_init) (nL := 3) (by decide +kernel) rfl (Nat.le_of_ble_eq_true rfl) hA (fun p e s m args below meth c ls C0 hH hl => ?_)
  have hl : lv_has ls 3 [(0, .ref (g.2.2 + o)), (1, .ref (g.2.2 + 1))] := hl
  have C0 : cz_C p m c cX8_init 3 s args wsX8_init RX8 meth yX8_init g A := C0
  obtain ⟨⟨hx, hb, hml, hown, hts⟩, -⟩ := id C0
  refine lv_aload_n hx hb dX8_init_0 rfl (lv_at hl 0 rfl) ?_
  refine W.objInit hx hb hown (hts (.methodLink RX8 3 objectInit) (by decide +kernel)) (hts (.instanceMethod objectInit) (by decide +kernel)) (hts _ (List.mem_of_getElem? (i := 3) rfl)) rfl (by rw [hml]; exact hl.1) rfl dX8_init_1 (Nat.le_of_ble_eq_true rfl) (Nat.le_of_ble_eq_true rfl) ?_
  refine W.eq (g2 := F0 m 4 ls []) rfl ?_
  refine lv_aload_n hx hb dX8_init_4 rfl (lv_at hl 0 rfl) ?_
  refine cz_new (X := X) (Y' := [(g.2.2 + o, .inr (7, [.null, .null, .int 0, .int 0])), (g.2.2 + (o + 1), .inr (5, [.int 0, .int 0, .int 0, .int 0, .int 0, .int 0]))]) (C := RX6) (T := TX6) (N := 6) (fs := [.int 0, .int 0, .int 0, .int 0, .int 0, .int 0]) C0 hH nX8_init_X6 tyX6 tyX6_ok (by decide +kernel) (by decide +kernel) (by decide +kernel) rfl (by decide) (Nat.le_of_ble_eq_true rfl) (Nat.le_of_ble_eq_true rfl) dX8_init_5 rfl (fun H hH => ?_)
  have hH : cz_H g A (X ++ [(g.2.2 + o, .inr (7, [.null, .null, .int 0, .int 0])), (g.2.2 + (o + 1), .inr (5, [.int 0, .int 0, .int 0, .int 0, .int 0, .int 0]))]) (g.2.2 + (o + 2)) s.heap H [] := hH
  refine lv_dup hx hb dX8_init_8 rfl ?_
  refine cz_ini (X := X) (Y' := [(g.2.2 + o, .inr (7, [.null, .null, .int 0, .int 0])), (g.2.2 + (o + 1), .inr (5, [.int 5, .int 40, .int 2, .int 12, .int 30, .int 6]))]) (As := []) (rest := [.ref (g.2.2 + (o + 1)), .ref (g.2.2 + o)]) C0 hH (cz_X6_init l g A (X ++ [(g.2.2 + o, .inr (7, [.null, .null, .int 0, .int 0]))]) (g.2.2 + (o + 2)) (g.2.2 + (o + 1)) (fun r h => hA r (by omega))) (by simp) (by simp) (cwI 0 hts gX8_init_X6_init rfl rfl rfl (hts (.initialized RX6) (by decide +kernel)) (hts (.methodLink RX8 11 yX6_init) (by decide +kernel)) (hts (.instanceMethod yX6_init) (by decide +kernel)) rfl (by decide +kernel) ⟨Nat.le_of_ble_eq_true rfl, Nat.le_of_ble_eq_true rfl⟩) rfl hl.1 (lv_room (Nat.le_of_ble_eq_true rfl)) dX8_init_9 ⟨Nat.le_of_ble_eq_true rfl, Nat.le_of_ble_eq_true rfl⟩ (fun H locs hH => ?_)
  refine cz_put (X := X) (Y' := [(g.2.2 + o, .inr (7, [.ref (g.2.2 + (o + 1)), .null, .int 0, .int 0])), (g.2.2 + (o + 1), .inr (5, [.int 5, .int 40, .int 2, .int 12, .int 30, .int 6]))]) (C := RX8) (T := TX8) (N := 4) (ty := (.object "QuarrelDesk$Terms")) C0 nX8_init_X8 tyX8 tyX8_ok nmX8 hH 0 rfl rfl 0 (by decide) (by decide +kernel) rfl (Or.inr ⟨rfl, rfl, rfl⟩) (by decide +kernel) rfl rfl (Nat.le_of_ble_eq_true rfl) rfl dX8_init_12 (fun H locs hH => ?_)
  refine lv_aload_n hx hb dX8_init_15 rfl (lv_at hl 0 rfl) ?_
  refine lv_bipush (v := 6) hx hb dX8_init_16 (by decide) ?_
  refine cz_newr (X := X) (Y' := [(g.2.2 + o, .inr (7, [.ref (g.2.2 + (o + 1)), .null, .int 0, .int 0])), (g.2.2 + (o + 1), .inr (5, [.int 5, .int 40, .int 2, .int 12, .int 30, .int 6])), (g.2.2 + (o + 2), .inl (g.2.1 3, 6, .inr (.inr (.inr (.inr (fun _ => none))))))]) (N' := 6) (t0 := 3) (C := "QuarrelDesk$Life") C0 hH (by decide +kernel) (List.mem_of_getElem? (i := 1) rfl) rfl (by decide) (by decide) (by decide) (Nat.le_of_ble_eq_true rfl) (Nat.le_of_ble_eq_true rfl) dX8_init_18 rfl (fun H hH => ?_)
  have hH : cz_H g A (X ++ [(g.2.2 + o, .inr (7, [.ref (g.2.2 + (o + 1)), .null, .int 0, .int 0])), (g.2.2 + (o + 1), .inr (5, [.int 5, .int 40, .int 2, .int 12, .int 30, .int 6])), (g.2.2 + (o + 2), .inl (g.2.1 3, 6, .inr (.inr (.inr (.inr (fun _ => none))))))]) (g.2.2 + (o + 3)) s.heap H locs := hH
  refine cz_put (X := X) (Y' := [(g.2.2 + o, .inr (7, [.ref (g.2.2 + (o + 1)), .ref (g.2.2 + (o + 2)), .int 0, .int 0])), (g.2.2 + (o + 1), .inr (5, [.int 5, .int 40, .int 2, .int 12, .int 30, .int 6])), (g.2.2 + (o + 2), .inl (g.2.1 3, 6, .inr (.inr (.inr (.inr (fun _ => none))))))]) (C := RX8) (T := TX8) (N := 4) (ty := (.array (.object "QuarrelDesk$Life"))) C0 nX8_init_X8 tyX8 tyX8_ok nmX8 hH 0 rfl rfl 1 (by decide) (by decide +kernel) rfl (Or.inr ⟨rfl, rfl, rfl⟩) (by decide +kernel) rfl rfl (Nat.le_of_ble_eq_true rfl) rfl dX8_init_21 (fun H locs hH => ?_)
  refine lv_iconst (v := 0) hx hb dX8_init_24 (by decide) ?_
  refine lv_istore_n hx hb dX8_init_25 rfl hl (by decide) rfl (fun ls hl => ?_)
  rw [cz_ra0 (fun j => g.2.2 + (o + 3 + j))] at hH
  have hs3 : ∀ i, i < 6 → tm_shp (o + 3 + i) = 0 := fun i hi => by
    rw [Nat.add_assoc, hy.1 (3 + i) (by omega), tm_yshp, if_neg (by omega), if_neg (by omega), if_neg (by omega)]
  have loop : ∀ (d i : Nat), i + d = 6 → ∀ (H : Heap) (locs : List Loc) (ls : Array Slot), cz_H g A (X ++ ([(g.2.2 + o, .inr (7, [.ref (g.2.2 + (o + 1)), .ref (g.2.2 + (o + 2)), .int 0, .int 0])), (g.2.2 + (o + 1), .inr (5, [.int 5, .int 40, .int 2, .int 12, .int 30, .int 6])), (g.2.2 + (o + 2), .inl (g.2.1 3, 6, .inr (.inr (.inr (.inr (cz_ra (fun j => g.2.2 + (o + 3 + j)) i))))))] ++ cz_ls g (o + 3) i)) (g.2.2 + (o + 3 + i)) s.heap H locs → lv_has ls 3 [(2, .int (nI i)), (0, .ref (g.2.2 + o)), (1, .ref (g.2.2 + 1))] →
      W p l e { frames := 2, cells := 8, slots := 84, locals := 44 } s m args below meth c H locs (2 + i) (12 + 12 * i) (MQ below (cz_Q g A (X ++ tm_ws g (List.range' o 9) cz_M) (g.2.2 + (o + 9))) args s 8 84 A) (F0 m 26 ls []) := by
    intro d
    induction d with
    | zero =>
      intro i hi H locs ls hH hl
      have hi6 : i = 6 := hi
      subst hi6
      refine lv_iload_n hx hb dX8_init_26 rfl (lv_at hl 0 rfl) ?_
      refine lv_bipush (v := 6) hx hb dX8_init_27 (by decide) ?_
      refine lv_icmp_ge (tgt := 52) hx hb dX8_init_29 (by decide) (fun _ => ?_) (fun c1 => absurd (cz_nle 6 (by decide)) c1)
      have hH := cz_tot (X := X ++ [(g.2.2 + o, .inr (7, [.ref (g.2.2 + (o + 1)), .ref (g.2.2 + (o + 2)), .int 0, .int 0])), (g.2.2 + (o + 1), .inr (5, [.int 5, .int 40, .int 2, .int 12, .int 30, .int 6]))]) (Y := cz_ls g (o + 3) 6) (f := fun j => g.2.2 + (o + 3 + j)) (a := g.2.2 + (o + 2)) (by rw [List.append_assoc]; exact hH)
      have e9 : X ++ tm_ws g (List.range' o 9) cz_M = (X ++ [(g.2.2 + o, .inr (7, [.ref (g.2.2 + (o + 1)), .ref (g.2.2 + (o + 2)), .int 0, .int 0])), (g.2.2 + (o + 1), .inr (5, [.int 5, .int 40, .int 2, .int 12, .int 30, .int 6]))]) ++ ((g.2.2 + (o + 2), .inl (g.2.1 3, 6, .inr (.inr (.inr (.inr (fun j => some (g.2.2 + (o + 3 + j)))))))) :: cz_ls g (o + 3) 6) := by
        rw [List.append_assoc]
        congr 1
        rw [show (9 : Nat) = 3 + 6 from rfl, ← cz_ap]
        have s0 : tm_shp o = 7 := hy.1 0 (by decide)
        have s1 : tm_shp (o + 1) = 5 := hy.1 1 (by decide)
        have s2 : tm_shp (o + 2) = 13 := hy.1 2 (by decide)
        have r2 : ∀ j, tm_ra (o + 2) j = o + 3 + j := fun j => by
          rw [tm_ra, if_neg hy.2.1, if_neg hy.2.2.1, if_neg hy.2.2.2]
        have hm2 : tm_mk g (o + 2) (tm_shp (o + 2)) (cz_M (o + 2)) = .inl (g.2.1 3, 6, .inr (.inr (.inr (.inr (fun j => some (g.2.2 + (o + 3 + j))))))) := by
          rw [tm_mkL s2]
          simp only [r2]
        show tm_ws g [o, o + 1, o + 2] cz_M ++ _ = _
        show (g.2.2 + o, tm_mk g o (tm_shp o) (cz_M o)) :: (g.2.2 + (o + 1), tm_mk g (o + 1) (tm_shp (o + 1)) (cz_M (o + 1))) :: (g.2.2 + (o + 2), tm_mk g (o + 2) (tm_shp (o + 2)) (cz_M (o + 2))) :: _ = _
        rw [← cz_yr s0, ← cz_tr s1, hm2]
        rfl
      rw [e9]
      exact cz_ret C0 hH dX8_init_52
    | succ d ih =>
      intro i hi H locs ls hH hl
      have hi6 : i < 6 := by omega
      refine lv_iload_n hx hb dX8_init_26 rfl (lv_at hl 0 rfl) ?_
      refine lv_bipush (v := 6) hx hb dX8_init_27 (by decide) ?_
      refine lv_icmp_ge (tgt := 52) hx hb dX8_init_29 (by decide) (fun c1 => absurd c1 (cz_nge 6 (by decide) i hi6)) (fun _ => ?_)
      refine lv_aload_n hx hb dX8_init_32 rfl (lv_at hl 1 rfl) ?_
      refine cz_get (X := X) (C := RX8) (T := TX8) (N := 4) C0 nX8_init_X8 hH 0 rfl rfl 1 (by decide) (by decide +kernel) rfl dX8_init_33 ?_
      refine lv_iload_n hx hb dX8_init_36 rfl (lv_at hl 0 rfl) ?_
      refine cz_new (X := X) (Y' := [(g.2.2 + o, .inr (7, [.ref (g.2.2 + (o + 1)), .ref (g.2.2 + (o + 2)), .int 0, .int 0])), (g.2.2 + (o + 1), .inr (5, [.int 5, .int 40, .int 2, .int 12, .int 30, .int 6])), (g.2.2 + (o + 2), .inl (g.2.1 3, 6, .inr (.inr (.inr (.inr (cz_ra (fun j => g.2.2 + (o + 3 + j)) i))))))] ++ (cz_ls g (o + 3) i ++ [(g.2.2 + (o + 3 + i), .inr (0, [.null, .int 0, .int 0, .int 0, .int 0, .int 0, .int 0, .int 0, .int 0, .int 0, .int 0, .int 0]))])) (C := RX1) (T := TX1) (N := 12) (fs := [.null, .int 0, .int 0, .int 0, .int 0, .int 0, .int 0, .int 0, .int 0, .int 0, .int 0, .int 0]) C0 hH nX8_init_X1 tyX1 tyX1_ok (by decide +kernel) (by decide +kernel) (by decide +kernel) rfl (by decide) (by show 2 + i + 1 ≤ 8; omega) (by show 12 + 12 * i + 12 ≤ 84; omega) dX8_init_37 (List.append_assoc ..) (fun H hH => ?_)
      refine lv_dup hx hb dX8_init_40 rfl ?_
      refine lv_aload_n hx hb dX8_init_41 rfl (lv_at hl 2 rfl) ?_
      refine cz_ini (X := X) (Y' := [(g.2.2 + o, .inr (7, [.ref (g.2.2 + (o + 1)), .ref (g.2.2 + (o + 2)), .int 0, .int 0])), (g.2.2 + (o + 1), .inr (5, [.int 5, .int 40, .int 2, .int 12, .int 30, .int 6])), (g.2.2 + (o + 2), .inl (g.2.1 3, 6, .inr (.inr (.inr (.inr (cz_ra (fun j => g.2.2 + (o + 3 + j)) i))))))] ++ cz_ls g (o + 3) (i + 1)) (As := [.ref (g.2.2 + 1)]) (rest := [.ref (g.2.2 + (o + 3 + i)), .int (nI i), .ref (g.2.2 + (o + 2))]) C0 hH (cz_X1_init l g A (X ++ ([(g.2.2 + o, .inr (7, [.ref (g.2.2 + (o + 1)), .ref (g.2.2 + (o + 2)), .int 0, .int 0])), (g.2.2 + (o + 1), .inr (5, [.int 5, .int 40, .int 2, .int 12, .int 30, .int 6])), (g.2.2 + (o + 2), .inl (g.2.1 3, 6, .inr (.inr (.inr (.inr (cz_ra (fun j => g.2.2 + (o + 3 + j)) i))))))] ++ cz_ls g (o + 3) i)) (g.2.2 + (o + 3 + i) + 1) (g.2.2 + (o + 3 + i)) (g.2.2 + 1) (fun r h => hA r (by omega))) (by rw [List.append_assoc, List.append_assoc]) (by rw [cz_lsS g (o + 3) i (hs3 i hi6), List.append_assoc, List.append_assoc]) (cwI 1 hts gX8_init_X1_init rfl rfl rfl (hts (.initialized RX1) (by decide +kernel)) (hts (.methodLink RX8 24 yX1_init) (by decide +kernel)) (hts (.instanceMethod yX1_init) (by decide +kernel)) rfl (by decide +kernel) ⟨Nat.le_of_ble_eq_true rfl, Nat.le_of_ble_eq_true rfl⟩) rfl hl.1 (lv_room (Nat.le_of_ble_eq_true rfl)) dX8_init_42 ⟨by show 2 + i + 1 + 0 ≤ 8; omega, by show 12 + 12 * i + 12 + 0 ≤ 84; omega⟩ (fun H locs hH => ?_)
      refine cz_ast (X := X) (Y' := [(g.2.2 + o, .inr (7, [.ref (g.2.2 + (o + 1)), .ref (g.2.2 + (o + 2)), .int 0, .int 0])), (g.2.2 + (o + 1), .inr (5, [.int 5, .int 40, .int 2, .int 12, .int 30, .int 6])), (g.2.2 + (o + 2), .inl (g.2.1 3, 6, .inr (.inr (.inr (.inr (cz_ra (fun j => g.2.2 + (o + 3 + j)) (i + 1)))))))] ++ cz_ls g (o + 3) (i + 1)) C0 hH (X.length + 2) 3 (X.length + (3 + (cz_ls g (o + 3) i).length)) 0 (r := (RX1, TX1, 12)) (f := cz_ra (fun j => g.2.2 + (o + 3 + j)) i) (cz_ix rfl) rfl (by rw [cz_lsS g (o + 3) i (hs3 i hi6)]; exact cz_ix (cz_last (X := [_, _, _]))) rfl (cz_asgE C0 (ci := 0) rfl) (cz_nvi 6 (by decide) i hi6) dX8_init_45 (by rw [cz_ncl i (by omega), cz_raS (fun j => g.2.2 + (o + 3 + j)) i]; exact cz_sx rfl) (fun H locs hH => ?_)
      refine lv_iinc (v := nI (i + 1)) (lv' := [(2, .int (nI (i + 1))), (0, .ref (g.2.2 + o)), (1, .ref (g.2.2 + 1))]) hx hb dX8_init_46 hl (k := 0) rfl (cz_nin i (by omega)) (by decide) rfl (fun ls hl => ?_)
      refine lv_goto (tgt := 26) hx hb dX8_init_49 (by decide) ?_
      have e1 : 12 + 12 * i + 12 = 12 + 12 * (i + 1) := by omega
      show W p l e _ s m args below meth c H locs (2 + (i + 1)) (12 + 12 * i + 12) _ _
      rw [e1]
      exact ih (i + 1) (by omega) H locs ls hH hl
  exact loop 6 0 rfl H locs ls hH hl
