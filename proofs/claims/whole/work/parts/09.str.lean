/-! The one text of the program: its length, its letters, by the JDK's own code -/
def tm_wch (j : Nat) : Int32 := ((tm_words.getD j 0 &&& 255).toUInt32 % 65536).toInt32
theorem tm_wch_is : ∀ j, j < 77 → tm_wch j = tm_words.getD j 0 := by decide +kernel
section TMN
variable {p : Program} {l : Launch} {e : Env} {R : Room} {s : State} {m : MethodId} {args : Array Value} {below : List Frame} {meth : Method} {c : Code} {H : Heap} {locs : List Loc} {cells slots : Nat}
variable {cc : ByteArray} {pc : Nat} {ls : Array Slot} {g : tm_G} {A : Nat → Prop} {L : List Nat} {M : tm_M} {own : String} {Ts : List Cond} {nL : Nat} {F : Nat → Prop}
theorem tm_nret {R0 : Int32 × tm_M} {r : Int32} {ty : FieldType} (C0 : tm_C p m c cc nL s args Ts own meth (some ty) g A L F) (hn : narrow ty (.int r) = .int r) (h : (r, M) = R0) (hP : va_P g.1 vwCl (tm_ws g L M) H) (hS : va_S A s.heap H locs) (hdg : decode cc pc = .ok (.ireturn, 1)) : W p l e R s m args below meth c H locs cells slots (MQ below (tm_QI g A L R0) args s cells slots A) (F0 m pc ls [.int r]) := by
  obtain ⟨⟨hx, hb, -⟩, hr, hlk, hK, -, hG, -⟩ := C0
  exact W.zret (v := r) hx hb hr hn (fun t ht hW => ⟨⟨r, M, rfl, h, tm_Z.at hP hK hG hS ht hW⟩, hS.F ht⟩) hS.2.2 hdg hlk
end TMN
set_option maxHeartbeats 4000000 in
set_option maxRecDepth 100000 in
theorem c_J0_coder (l : Launch) (g : tm_G) (A : Nat → Prop) (L : List Nat) (hD : ∀ M, va_D A (tm_ws g L M)) (hF : ∀ o, tm_all o → o ∈ L) (M : tm_M) : Met l yJ0_coder_7d493 wsJ0_coder_7d493 { frames := 0, cells := 0, slots := 0, locals := 0 } (tm_PC g A L M [.ref (g.2.1 5)]) (tm_QI g A L (0, M)) 0 0 A := by
  refine tm_start (cc := cJ0_coder_7d493) (nL := 1) (ret := some .byte) (F := tm_all) (plainFor_of_name (by decide)) rfl (Nat.le_of_ble_eq_true rfl) hD hF (fun p e s m args below meth c ls C0 hP hS hl => ?_)
  have hl : lv_has ls 1 [(0, .ref (g.2.1 5))] := hl
  have C0 : tm_C p m c cJ0_coder_7d493 1 s args wsJ0_coder_7d493 RJ0 meth (some .byte) g A L tm_all := C0
  obtain ⟨⟨hx, hb, hml, hown, hts⟩, hr, hlk, hK, hD, hG, hF⟩ := id C0
  have hE := hG.2.2.2.2.2.2.2.2.2.1.1.1 0 (by decide)
  refine va_gets hx hb hG.2.2.2.2.2.2.2.2.1 hS hown (hts (.fieldLink RJ0 38 "java/lang/String" "COMPACT_STRINGS" "Z") (by decide +kernel)) (fun _ h => h) dJ0_coder_7d493_0 ?_
  refine lv_if_eq (tgt := 13) hx hb dJ0_coder_7d493_3 (by decide) (fun c1 => absurd c1 (by decide)) (fun _ => ?_)
  refine lv_aload_n hx hb dJ0_coder_7d493_6 rfl (lv_at hl 0 rfl) ?_
  refine vk_getf hx hb hE.2.1 hS hown (hts (.fieldLink RJ0 15 "java/lang/String" "coder" "B") (by decide +kernel)) (fun _ h => h) dJ0_coder_7d493_7 ?_
  refine lv_goto (tgt := 14) hx hb dJ0_coder_7d493_10 (by decide) ?_
  exact tm_nret C0 rfl rfl hP hS dJ0_coder_7d493_14
set_option maxHeartbeats 4000000 in
set_option maxRecDepth 100000 in
theorem c_J0_isLatin1 (l : Launch) (g : tm_G) (A : Nat → Prop) (L : List Nat) (hD : ∀ M, va_D A (tm_ws g L M)) (hF : ∀ o, tm_all o → o ∈ L) (M : tm_M) : Met l yJ0_isLatin1_aae02 wsJ0_isLatin1_aae02 { frames := 0, cells := 0, slots := 0, locals := 0 } (tm_PC g A L M [.ref (g.2.1 5)]) (tm_QI g A L (1, M)) 0 0 A := by
  refine tm_start (cc := cJ0_isLatin1_aae02) (nL := 1) (ret := some .boolean) (F := tm_all) (plainFor_of_name (by decide)) rfl (Nat.le_of_ble_eq_true rfl) hD hF (fun p e s m args below meth c ls C0 hP hS hl => ?_)
  have hl : lv_has ls 1 [(0, .ref (g.2.1 5))] := hl
  have C0 : tm_C p m c cJ0_isLatin1_aae02 1 s args wsJ0_isLatin1_aae02 RJ0 meth (some .boolean) g A L tm_all := C0
  obtain ⟨⟨hx, hb, hml, hown, hts⟩, hr, hlk, hK, hD, hG, hF⟩ := id C0
  have hE := hG.2.2.2.2.2.2.2.2.2.1.1.1 0 (by decide)
  refine va_gets hx hb hG.2.2.2.2.2.2.2.2.1 hS hown (hts (.fieldLink RJ0 38 "java/lang/String" "COMPACT_STRINGS" "Z") (by decide +kernel)) (fun _ h => h) dJ0_isLatin1_aae02_0 ?_
  refine lv_if_eq (tgt := 17) hx hb dJ0_isLatin1_aae02_3 (by decide) (fun c1 => absurd c1 (by decide)) (fun _ => ?_)
  refine lv_aload_n hx hb dJ0_isLatin1_aae02_6 rfl (lv_at hl 0 rfl) ?_
  refine vk_getf hx hb hE.2.1 hS hown (hts (.fieldLink RJ0 15 "java/lang/String" "coder" "B") (by decide +kernel)) (fun _ h => h) dJ0_isLatin1_aae02_7 ?_
  refine lv_if_ne (tgt := 17) hx hb dJ0_isLatin1_aae02_10 (by decide) (fun c1 => absurd rfl c1) (fun _ => ?_)
  refine lv_iconst (v := 1) hx hb dJ0_isLatin1_aae02_13 (by decide) ?_
  refine lv_goto (tgt := 18) hx hb dJ0_isLatin1_aae02_14 (by decide) ?_
  exact tm_zret C0 (Or.inr rfl) rfl hP hS dJ0_isLatin1_aae02_18
set_option maxHeartbeats 4000000 in
set_option maxRecDepth 100000 in
theorem c_J0_length (l : Launch) (g : tm_G) (A : Nat → Prop) (L : List Nat) (hD : ∀ M, va_D A (tm_ws g L M)) (hF : ∀ o, tm_all o → o ∈ L) (M : tm_M) : Met l yJ0_length_8abf5 wsJ0_length_8abf5 { frames := 1, cells := 0, slots := 0, locals := 20 } (tm_PC g A L M [.ref (g.2.1 5)]) (tm_QI g A L (77, M)) 0 0 A := by
  refine tm_start (cc := cJ0_length_8abf5) (nL := 1) (ret := some .int) (F := tm_all) (plainFor_of_name (by decide)) rfl (Nat.le_of_ble_eq_true rfl) hD hF (fun p e s m args below meth c ls C0 hP hS hl => ?_)
  have hl : lv_has ls 1 [(0, .ref (g.2.1 5))] := hl
  have C0 : tm_C p m c cJ0_length_8abf5 1 s args wsJ0_length_8abf5 RJ0 meth (some .int) g A L tm_all := C0
  obtain ⟨⟨hx, hb, hml, hown, hts⟩, hr, hlk, hK, hD, hG, hF⟩ := id C0
  have hV := hG.2.2.2.2.2.2.2.2.2.1.1
  have hE := hV.1 0 (by decide)
  refine lv_aload_n hx hb dJ0_length_8abf5_0 rfl (lv_at hl 0 rfl) ?_
  refine vk_getf hx hb hE.2.2.1 hS hown (hts (.fieldLink RJ0 9 "java/lang/String" "value" "[B") (by decide +kernel)) (fun _ h => h) dJ0_length_8abf5_1 ?_
  refine va_tlen (v := 77) hx hb hE.2.2.2 hS rfl dJ0_length_8abf5_4 ?_
  refine lv_aload_n hx hb dJ0_length_8abf5_5 rfl (lv_at hl 0 rfl) ?_
  refine tm_backI (r0 := 0) (M0 := M) (fun _ q => q) (tm_callV (As := []) (rest := [.int 77]) ⟨hx, hb, hml, hown, hts⟩ hK hG hP hS (c_J0_coder l g A L hD hF M) (cwV 0 hts gJ0_length_8abf5_J0_coder_7d493 rfl rfl rfl (by decide +kernel) ⟨Nat.le_of_ble_eq_true rfl, Nat.le_of_ble_eq_true rfl⟩) (vk_recv (adK := fun _ => g.2.1 5) (i := 0) hV (by decide) hS) rfl hl.1 (lv_room (Nat.le_of_ble_eq_true rfl)) dJ0_length_8abf5_6 ⟨Nat.zero_le _, Nat.zero_le _⟩) hS (fun H locs hP hS => ?_)
  refine lv_ishr hx hb dJ0_length_8abf5_9 ?_
  exact tm_iret C0 (by rw [show ((77 : Int32) >>> ((0 : Int32) &&& 31)) = 77 from by decide]) hP hS dJ0_length_8abf5_10
set_option maxHeartbeats 4000000 in
set_option maxRecDepth 100000 in
theorem c_J3_checkIndex (l : Launch) (g : tm_G) (A : Nat → Prop) (L : List Nat) (hD : ∀ M, va_D A (tm_ws g L M)) (hF : ∀ o, tm_all o → o ∈ L) (M : tm_M) (j : Nat) (hj : j < 77) (v : Value) (hv : v = .null ∨ ∃ t, v = .ref t) : Met l yJ3_checkIndex_8e157 wsJ3_checkIndex_8e157 { frames := 0, cells := 0, slots := 0, locals := 0 } (tm_PC g A L M [.int (nI j), .int 77, v]) (tm_QI g A L (nI j, M)) 0 0 A := by
  have h1 : ¬ nI j < 0 := nI_pos (by omega)
  have h2 : nI j < 77 := show nI j < nI 77 from nI_lt hj (by decide)
  rcases hv with rfl | ⟨t, rfl⟩
  · refine tm_start (cc := cJ3_checkIndex_8e157) (nL := 3) (ret := some .int) (F := tm_all) (plainFor_of_name (by decide)) rfl (Nat.le_of_ble_eq_true rfl) hD hF (fun p e s m args below meth c ls C0 hP hS hl => ?_)
    have hl : lv_has ls 3 [(0, .int (nI j)), (1, .int 77), (2, .null)] := hl
    have C0 : tm_C p m c cJ3_checkIndex_8e157 3 s args wsJ3_checkIndex_8e157 RJ3 meth (some .int) g A L tm_all := C0
    obtain ⟨⟨hx, hb, hml, hown, hts⟩, hr, hlk, hK, hD, hG, hF⟩ := id C0
    refine lv_iload_n hx hb dJ3_checkIndex_8e157_0 rfl (lv_at hl 0 rfl) ?_
    refine lv_if_lt (tgt := 9) hx hb dJ3_checkIndex_8e157_1 (by decide) (fun c1 => absurd c1 h1) (fun _ => ?_)
    refine lv_iload_n hx hb dJ3_checkIndex_8e157_4 rfl (lv_at hl 0 rfl) ?_
    refine lv_iload_n hx hb dJ3_checkIndex_8e157_5 rfl (lv_at hl 1 rfl) ?_
    refine lv_icmp_lt (tgt := 16) hx hb dJ3_checkIndex_8e157_6 (by decide) (fun _ => ?_) (fun c1 => absurd h2 c1)
    refine lv_iload_n hx hb dJ3_checkIndex_8e157_16 rfl (lv_at hl 0 rfl) ?_
    exact tm_iret C0 rfl hP hS dJ3_checkIndex_8e157_17
  · refine tm_start (cc := cJ3_checkIndex_8e157) (nL := 3) (ret := some .int) (F := tm_all) (plainFor_of_name (by decide)) rfl (Nat.le_of_ble_eq_true rfl) hD hF (fun p e s m args below meth c ls C0 hP hS hl => ?_)
    have hl : lv_has ls 3 [(0, .int (nI j)), (1, .int 77), (2, .ref t)] := hl
    have C0 : tm_C p m c cJ3_checkIndex_8e157 3 s args wsJ3_checkIndex_8e157 RJ3 meth (some .int) g A L tm_all := C0
    obtain ⟨⟨hx, hb, hml, hown, hts⟩, hr, hlk, hK, hD, hG, hF⟩ := id C0
    refine lv_iload_n hx hb dJ3_checkIndex_8e157_0 rfl (lv_at hl 0 rfl) ?_
    refine lv_if_lt (tgt := 9) hx hb dJ3_checkIndex_8e157_1 (by decide) (fun c1 => absurd c1 h1) (fun _ => ?_)
    refine lv_iload_n hx hb dJ3_checkIndex_8e157_4 rfl (lv_at hl 0 rfl) ?_
    refine lv_iload_n hx hb dJ3_checkIndex_8e157_5 rfl (lv_at hl 1 rfl) ?_
    refine lv_icmp_lt (tgt := 16) hx hb dJ3_checkIndex_8e157_6 (by decide) (fun _ => ?_) (fun c1 => absurd h2 c1)
    refine lv_iload_n hx hb dJ3_checkIndex_8e157_16 rfl (lv_at hl 0 rfl) ?_
    exact tm_iret C0 rfl hP hS dJ3_checkIndex_8e157_17
set_option maxHeartbeats 4000000 in
set_option maxRecDepth 100000 in
theorem c_J0_checkIndex (l : Launch) (g : tm_G) (A : Nat → Prop) (L : List Nat) (hD : ∀ M, va_D A (tm_ws g L M)) (hF : ∀ o, tm_all o → o ∈ L) (M : tm_M) (j : Nat) (hj : j < 77) : Met l yJ0_checkIndex_df160 wsJ0_checkIndex_df160 { frames := 1, cells := 0, slots := 0, locals := 22 } (tm_PC g A L M [.int (nI j), .int 77]) (tm_QV g A L M) 0 0 A := by
  refine tm_start (cc := cJ0_checkIndex_df160) (nL := 2) (ret := none) (F := tm_all) (plainFor_of_name (by decide)) rfl (Nat.le_of_ble_eq_true rfl) hD hF (fun p e s m args below meth c ls C0 hP hS hl => ?_)
  have hl : lv_has ls 2 [(0, .int (nI j)), (1, .int 77)] := hl
  have C0 : tm_C p m c cJ0_checkIndex_df160 2 s args wsJ0_checkIndex_df160 RJ0 meth none g A L tm_all := C0
  obtain ⟨⟨hx, hb, hml, hown, hts⟩, hr, hlk, hK, hD, hG, hF⟩ := id C0
  refine lv_iload_n hx hb dJ0_checkIndex_df160_0 rfl (lv_at hl 0 rfl) ?_
  refine lv_iload_n hx hb dJ0_checkIndex_df160_1 rfl (lv_at hl 1 rfl) ?_
  rcases hG.2.2.2.2.2.2.2.2.2.2.2 with hz | ⟨t, hz⟩
  · refine va_gets hx hb hz hS hown (hts (.fieldLink RJ0 1053 "jdk/internal/util/Preconditions" "SIOOBE_FORMATTER" "Ljava/util/function/BiFunction;") (by decide +kernel)) (fun _ h => h) dJ0_checkIndex_df160_2 ?_
    refine tm_backI (r0 := nI j) (M0 := M) (fun _ q => q) (tm_callS (As := [.int (nI j), .int 77, .null]) (rest := []) ⟨hx, hb, hml, hown, hts⟩ hK hG hP hS (c_J3_checkIndex l g A L hD hF M j hj .null (Or.inl rfl)) (va_cwS 3 hts gJ0_checkIndex_df160_J3_checkIndex_8e157 rfl rfl rfl (by decide +kernel) ⟨Nat.le_of_ble_eq_true rfl, Nat.le_of_ble_eq_true rfl⟩) rfl hl.1 (lv_room (Nat.le_of_ble_eq_true rfl)) dJ0_checkIndex_df160_5 ⟨Nat.zero_le _, Nat.zero_le _⟩) hS (fun H locs hP hS => ?_)
    refine lv_pop hx hb dJ0_checkIndex_df160_8 rfl ?_
    exact tm_vret C0 rfl hP hS dJ0_checkIndex_df160_9
  · refine va_gets hx hb hz hS hown (hts (.fieldLink RJ0 1053 "jdk/internal/util/Preconditions" "SIOOBE_FORMATTER" "Ljava/util/function/BiFunction;") (by decide +kernel)) (fun _ h => h) dJ0_checkIndex_df160_2 ?_
    refine tm_backI (r0 := nI j) (M0 := M) (fun _ q => q) (tm_callS (As := [.int (nI j), .int 77, .ref t]) (rest := []) ⟨hx, hb, hml, hown, hts⟩ hK hG hP hS (c_J3_checkIndex l g A L hD hF M j hj (.ref t) (Or.inr ⟨t, rfl⟩)) (va_cwS 3 hts gJ0_checkIndex_df160_J3_checkIndex_8e157 rfl rfl rfl (by decide +kernel) ⟨Nat.le_of_ble_eq_true rfl, Nat.le_of_ble_eq_true rfl⟩) rfl hl.1 (lv_room (Nat.le_of_ble_eq_true rfl)) dJ0_checkIndex_df160_5 ⟨Nat.zero_le _, Nat.zero_le _⟩) hS (fun H locs hP hS => ?_)
    refine lv_pop hx hb dJ0_checkIndex_df160_8 rfl ?_
    exact tm_vret C0 rfl hP hS dJ0_checkIndex_df160_9
set_option maxHeartbeats 4000000 in
set_option maxRecDepth 100000 in
theorem c_J1_charAt (l : Launch) (g : tm_G) (A : Nat → Prop) (L : List Nat) (hD : ∀ M, va_D A (tm_ws g L M)) (hF : ∀ o, tm_all o → o ∈ L) (M : tm_M) (j : Nat) (hj : j < 77) : Met l yJ1_charAt_3b067 wsJ1_charAt_3b067 { frames := 2, cells := 0, slots := 0, locals := 43 } (tm_PC g A L M [.ref (g.2.1 6), .int (nI j)]) (tm_QI g A L (tm_wch j, M)) 0 0 A := by
  refine tm_start (cc := cJ1_charAt_3b067) (nL := 2) (ret := some .char) (F := tm_all) (plainFor_of_name (by decide)) rfl (Nat.le_of_ble_eq_true rfl) hD hF (fun p e s m args below meth c ls C0 hP hS hl => ?_)
  have hl : lv_has ls 2 [(0, .ref (g.2.1 6)), (1, .int (nI j))] := hl
  have C0 : tm_C p m c cJ1_charAt_3b067 2 s args wsJ1_charAt_3b067 RJ1 meth (some .char) g A L tm_all := C0
  obtain ⟨⟨hx, hb, hml, hown, hts⟩, hr, hlk, hK, hD, hG, hF⟩ := id C0
  have hE := hG.2.2.2.2.2.2.2.2.2.1.1.1 0 (by decide)
  refine lv_iload_n hx hb dJ1_charAt_3b067_0 rfl (lv_at hl 1 rfl) ?_
  refine lv_aload_n hx hb dJ1_charAt_3b067_1 rfl (lv_at hl 0 rfl) ?_
  refine va_tlen (v := 77) hx hb hE.2.2.2 hS rfl dJ1_charAt_3b067_2 ?_
  refine tm_backV (M0 := M) (fun _ q => q) (tm_callS (As := [.int (nI j), .int 77]) (rest := []) ⟨hx, hb, hml, hown, hts⟩ hK hG hP hS (c_J0_checkIndex l g A L hD hF M j hj) (va_cwS 2 hts gJ1_charAt_3b067_J0_checkIndex_df160 rfl rfl rfl (by decide +kernel) ⟨Nat.le_of_ble_eq_true rfl, Nat.le_of_ble_eq_true rfl⟩) rfl hl.1 (lv_room (Nat.le_of_ble_eq_true rfl)) dJ1_charAt_3b067_3 ⟨Nat.zero_le _, Nat.zero_le _⟩) hS (fun H locs hP hS => ?_)
  refine lv_aload_n hx hb dJ1_charAt_3b067_6 rfl (lv_at hl 0 rfl) ?_
  refine lv_iload_n hx hb dJ1_charAt_3b067_7 rfl (lv_at hl 1 rfl) ?_
  refine va_tb (v := .int (tm_words.getD j 0)) hx hb hE.2.2.2 hS (vp_in_nI hj (by decide)) (by rw [nI_clamp (by omega)]; rfl) dJ1_charAt_3b067_8 ?_
  refine lv_sipush (v := 255) hx hb dJ1_charAt_3b067_9 (by decide) ?_
  refine lv_iand hx hb dJ1_charAt_3b067_12 ?_
  refine lv_i2c (v := tm_wch j) hx hb dJ1_charAt_3b067_13 rfl ?_
  exact tm_nret C0 (pk_nc _) rfl hP hS dJ1_charAt_3b067_14
set_option maxHeartbeats 4000000 in
set_option maxRecDepth 100000 in
theorem c_J0_charAt (l : Launch) (g : tm_G) (A : Nat → Prop) (L : List Nat) (hD : ∀ M, va_D A (tm_ws g L M)) (hF : ∀ o, tm_all o → o ∈ L) (M : tm_M) (i x : Int32) (h : tm_rds tm_wch 77 i = some x) : Met l yJ0_charAt_5068e wsJ0_charAt_5068e { frames := 3, cells := 0, slots := 0, locals := 64 } (tm_PC g A L M [.ref (g.2.1 5), .int i]) (tm_QI g A L (x, M)) 0 0 A := by
  obtain ⟨h1, h2⟩ := tm_rds_some h
  obtain ⟨j, hj, rfl⟩ := vp_in_of h1 (by decide)
  rw [nI_clamp (by omega)] at h2
  subst h2
  refine tm_start (cc := cJ0_charAt_5068e) (nL := 2) (ret := some .char) (F := tm_all) (plainFor_of_name (by decide)) rfl (Nat.le_of_ble_eq_true rfl) hD hF (fun p e s m args below meth c ls C0 hP hS hl => ?_)
  have hl : lv_has ls 2 [(0, .ref (g.2.1 5)), (1, .int (nI j))] := hl
  have C0 : tm_C p m c cJ0_charAt_5068e 2 s args wsJ0_charAt_5068e RJ0 meth (some .char) g A L tm_all := C0
  obtain ⟨⟨hx, hb, hml, hown, hts⟩, hr, hlk, hK, hD, hG, hF⟩ := id C0
  have hV := hG.2.2.2.2.2.2.2.2.2.1.1
  have hE := hV.1 0 (by decide)
  refine lv_aload_n hx hb dJ0_charAt_5068e_0 rfl (lv_at hl 0 rfl) ?_
  refine tm_backI (r0 := 1) (M0 := M) (fun _ q => q) (tm_callV (As := []) (rest := []) ⟨hx, hb, hml, hown, hts⟩ hK hG hP hS (c_J0_isLatin1 l g A L hD hF M) (cwV 0 hts gJ0_charAt_5068e_J0_isLatin1_aae02 rfl rfl rfl (by decide +kernel) ⟨Nat.le_of_ble_eq_true rfl, Nat.le_of_ble_eq_true rfl⟩) (vk_recv (adK := fun _ => g.2.1 5) (i := 0) hV (by decide) hS) rfl hl.1 (lv_room (Nat.le_of_ble_eq_true rfl)) dJ0_charAt_5068e_1 ⟨Nat.zero_le _, Nat.zero_le _⟩) hS (fun H locs hP hS => ?_)
  refine lv_if_eq (tgt := 16) hx hb dJ0_charAt_5068e_4 (by decide) (fun c1 => absurd c1 (by decide)) (fun _ => ?_)
  refine lv_aload_n hx hb dJ0_charAt_5068e_7 rfl (lv_at hl 0 rfl) ?_
  refine vk_getf hx hb hE.2.2.1 hS hown (hts (.fieldLink RJ0 9 "java/lang/String" "value" "[B") (by decide +kernel)) (fun _ h => h) dJ0_charAt_5068e_8 ?_
  refine lv_iload_n hx hb dJ0_charAt_5068e_11 rfl (lv_at hl 1 rfl) ?_
  refine tm_backI (r0 := tm_wch j) (M0 := M) (fun _ q => q) (tm_callS (As := [.ref (g.2.1 6), .int (nI j)]) (rest := []) ⟨hx, hb, hml, hown, hts⟩ hK hG hP hS (c_J1_charAt l g A L hD hF M j hj) (va_cwS 2 hts gJ0_charAt_5068e_J1_charAt_3b067 rfl rfl rfl (by decide +kernel) ⟨Nat.le_of_ble_eq_true rfl, Nat.le_of_ble_eq_true rfl⟩) rfl hl.1 (lv_room (Nat.le_of_ble_eq_true rfl)) dJ0_charAt_5068e_12 ⟨Nat.zero_le _, Nat.zero_le _⟩) hS (fun H locs hP hS => ?_)
  exact tm_nret C0 (pk_nc _) rfl hP hS dJ0_charAt_5068e_15
