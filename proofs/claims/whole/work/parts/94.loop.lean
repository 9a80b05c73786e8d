/-! THE LAW: its loop -/
theorem lw_31 (x : Int32) : ∃ k : Nat, k < 32 ∧ x &&& 31 = nI k := by
  have h1 : (x &&& 31).toBitVec.toNat < 32 := by
    rw [Int32.toBitVec_and, BitVec.toNat_and]
    exact Nat.lt_of_le_of_lt Nat.and_le_right (by decide)
  refine ⟨_, h1, ?_⟩
  apply Int32.toBitVec_inj.mp
  show _ = BitVec.ofNat 32 _
  rw [BitVec.ofNat_toNat, BitVec.setWidth_eq]
theorem lw_sub5 : ∀ L : Nat, L < 321 → (Int32.ofNat L - 5).toInt = (L : Int) - 5 := by decide +kernel
theorem lw_int : ∀ i : Nat, i < 321 → (nI i).toInt = (i : Int) := by decide +kernel
theorem lw_cmp {i L : Nat} (hi : i ≤ L) (hL : L ≤ 320) (h : ¬ Int32.ofNat L - 5 < nI i) : i + 5 ≤ L := by
  rw [Int32.lt_iff_toInt_lt, lw_sub5 L (by omega), lw_int i (by omega)] at h
  omega
theorem lw_big : ∀ k : Nat, k < 32 → 25 ≤ k → (24 : Int) < (nI k).toInt := by decide
set_option maxHeartbeats 1000000 in
set_option maxRecDepth 100000 in
theorem lw_disp {p : Program} {l : Launch} {e : Env} {s : State} {m : MethodId} {below : List Frame} {meth : Method} {c : Code} {b L : Nat} {xs : Nat → Int32} {g : tm_G} {H : Heap} {locs : List Loc} {cells slots : Nat} {Q : State → Prop} {ls : Array Slot} {M : tm_M} {n i : Nat} (K : lw_K p s m c b L xs g) (hc : cells ≤ room_1.cells) (hs : slots ≤ room_1.slots) (hi : i + 5 ≤ L) (hL : L ≤ 320) (hl : lv_has ls 4 [(3, .int (nI i)), (2, .ref (g.2.2 + 127)), (1, .ref (g.2.2 + 0)), (0, .ref b)]) (hP : va_P g.1 vwCl (tm_ws g (List.range 143) M) H) (hS : va_S (fun q : Nat => s.heap.size ≤ q) s.heap H locs) (hR : Rel M M n)
    (kk : ∀ (H : Heap) (locs : List Loc) (M : tm_M) (n : Nat), va_P g.1 vwCl (tm_ws g (List.range 143) M) H → va_S (fun q : Nat => s.heap.size ≤ q) s.heap H locs → Rel M M n → W p l e room_1 s m #[Value.ref b] below meth c H locs cells slots Q (F0 m 783 ls [])) (k : Nat) (hk : k < 32) : W p l e room_1 s m #[Value.ref b] below meth c H locs cells slots Q (F0 m 32 ls [.int (nI k)]) := by
  obtain ⟨hx, hb, -⟩ := id K.1
  match k, hk with
  | 0, _ => exact lv_tableIn (off := 116) (tgt := 148) hx hb dL_law_32 (by decide) (by decide) rfl (by decide) (lw_c0 K hc hs hi hL hl hP hS hR kk)
  | 1, _ => exact lv_tableIn (off := 139) (tgt := 171) hx hb dL_law_32 (by decide) (by decide) rfl (by decide) (lw_c1 K hc hs hi hL hl hP hS hR kk)
  | 2, _ => exact lv_tableIn (off := 152) (tgt := 184) hx hb dL_law_32 (by decide) (by decide) rfl (by decide) (lw_c2 K hc hs hi hL hl hP hS hR kk)
  | 3, _ => exact lv_tableIn (off := 165) (tgt := 197) hx hb dL_law_32 (by decide) (by decide) rfl (by decide) (lw_c3 K hc hs hi hL hl hP hS hR kk)
  | 4, _ => exact lv_tableIn (off := 178) (tgt := 210) hx hb dL_law_32 (by decide) (by decide) rfl (by decide) (lw_c4 K hc hs hi hL hl hP hS hR kk)
  | 5, _ => exact lv_tableIn (off := 211) (tgt := 243) hx hb dL_law_32 (by decide) (by decide) rfl (by decide) (lw_c5 K hc hs hi hL hl hP hS hR kk)
  | 6, _ => exact lv_tableIn (off := 244) (tgt := 276) hx hb dL_law_32 (by decide) (by decide) rfl (by decide) (lw_c6 K hc hs hi hL hl hP hS hR kk)
  | 7, _ => exact lv_tableIn (off := 267) (tgt := 299) hx hb dL_law_32 (by decide) (by decide) rfl (by decide) (lw_c7 K hc hs hi hL hl hP hS hR kk)
  | 8, _ => exact lv_tableIn (off := 280) (tgt := 312) hx hb dL_law_32 (by decide) (by decide) rfl (by decide) (lw_c8 K hc hs hi hL hl hP hS hR kk)
  | 9, _ => exact lv_tableIn (off := 303) (tgt := 335) hx hb dL_law_32 (by decide) (by decide) rfl (by decide) (lw_c9 K hc hs hi hL hl hP hS hR kk)
  | 10, _ => exact lv_tableIn (off := 326) (tgt := 358) hx hb dL_law_32 (by decide) (by decide) rfl (by decide) (lw_c10 K hc hs hi hL hl hP hS hR kk)
  | 11, _ => exact lv_tableIn (off := 359) (tgt := 391) hx hb dL_law_32 (by decide) (by decide) rfl (by decide) (lw_c11 K hc hs hi hL hl hP hS hR kk)
  | 12, _ => exact lv_tableIn (off := 372) (tgt := 404) hx hb dL_law_32 (by decide) (by decide) rfl (by decide) (lw_c12 K hc hs hi hL hl hP hS hR kk)
  | 13, _ => exact lv_tableIn (off := 395) (tgt := 427) hx hb dL_law_32 (by decide) (by decide) rfl (by decide) (lw_c13 K hc hs hi hL hl hP hS hR kk)
  | 14, _ => exact lv_tableIn (off := 418) (tgt := 450) hx hb dL_law_32 (by decide) (by decide) rfl (by decide) (lw_c14 K hc hs hi hL hl hP hS hR kk)
  | 15, _ => exact lv_tableIn (off := 441) (tgt := 473) hx hb dL_law_32 (by decide) (by decide) rfl (by decide) (lw_c15 K hc hs hi hL hl hP hS hR kk)
  | 16, _ => exact lv_tableIn (off := 474) (tgt := 506) hx hb dL_law_32 (by decide) (by decide) rfl (by decide) (lw_c16 K hc hs hi hL hl hP hS hR kk)
  | 17, _ => exact lv_tableIn (off := 497) (tgt := 529) hx hb dL_law_32 (by decide) (by decide) rfl (by decide) (lw_c17 K hc hs hi hL hl hP hS hR kk)
  | 18, _ => exact lv_tableIn (off := 520) (tgt := 552) hx hb dL_law_32 (by decide) (by decide) rfl (by decide) (lw_c18 K hc hs hi hL hl hP hS hR kk)
  | 19, _ => exact lv_tableIn (off := 553) (tgt := 585) hx hb dL_law_32 (by decide) (by decide) rfl (by decide) (lw_c19 K hc hs hi hL hl hP hS hR kk)
  | 20, _ => exact lv_tableIn (off := 596) (tgt := 628) hx hb dL_law_32 (by decide) (by decide) rfl (by decide) (lw_c20 K hc hs hi hL hl hP hS hR kk)
  | 21, _ => exact lv_tableIn (off := 639) (tgt := 671) hx hb dL_law_32 (by decide) (by decide) rfl (by decide) (lw_c21 K hc hs hi hL hl hP hS hR kk)
  | 22, _ => exact lv_tableIn (off := 652) (tgt := 684) hx hb dL_law_32 (by decide) (by decide) rfl (by decide) (lw_c22 K hc hs hi hL hl hP hS hR kk)
  | 23, _ => exact lv_tableIn (off := 675) (tgt := 707) hx hb dL_law_32 (by decide) (by decide) rfl (by decide) (lw_c23 K hc hs hi hL hl hP hS hR kk)
  | 24, _ => exact lv_tableIn (off := 728) (tgt := 760) hx hb dL_law_32 (by decide) (by decide) rfl (by decide) (lw_c24 K hc hs hi hL hl hP hS hR kk)
  | k + 25, hk => exact lv_tableOut (tgt := 783) hx hb dL_law_32 (Or.inr (lw_big (k + 25) hk (by omega))) (by decide) (kk H locs M n hP hS hR)
set_option maxHeartbeats 1000000 in
set_option maxRecDepth 100000 in
theorem lw_loop {p : Program} {l : Launch} {e : Env} {s : State} {m : MethodId} {below : List Frame} {meth : Method} {c : Code} {b L : Nat} {xs : Nat → Int32} {g : tm_G} (hL : L ≤ 320) (K : lw_K p s m c b L xs g) (hr : meth.sig.returnType = ret) (hlocks : meth.locks = false) : ∀ (d i : Nat), L < i + d → i ≤ L → ∀ (H : Heap) (locs : List Loc) (M : tm_M) (n : Nat) (ls : Array Slot), va_P g.1 vwCl (tm_ws g (List.range 143) M) H → va_S (fun q : Nat => s.heap.size ≤ q) s.heap H locs → Rel M M n → lv_has ls 4 [(3, .int (nI i)), (2, .ref (g.2.2 + 127)), (1, .ref (g.2.2 + 0)), (0, .ref b)] →
    W p l e room_1 s m #[Value.ref b] below meth c H locs 143 2465 (lw_Z below #[Value.ref b] s) (F0 m 18 ls []) := by
  obtain ⟨hx, hb, -⟩ := id K.1
  obtain ⟨-, -, -, -, hX, hbl⟩ := id K
  have hbA : ¬ (fun q : Nat => s.heap.size ≤ q) b := Nat.not_le.mpr hbl
  intro d
  induction d with
  | zero => intro i h1 h2; exact absurd h1 (by omega)
  | succ d ih =>
    intro i h1 hi H locs M n ls hP hS hR hl
    refine lv_iload_n hx hb dL_law_18 rfl (lv_at hl 0 rfl) ?_
    refine lv_aload_n hx hb dL_law_19 rfl (lv_at hl 3 rfl) ?_
    refine va_slen hx hb hX hbl hbA hS dL_law_20 ?_
    refine lv_iconst (v := 5) hx hb dL_law_21 (by decide) ?_
    refine lv_isub hx hb dL_law_22 ?_
    refine lv_icmp_gt (tgt := 789) hx hb dL_law_23 (by decide) (fun _ => ?_) (fun c1 => ?_)
    · refine lv_iconst (v := 1) hx hb dL_law_789 (by decide) ?_
      refine va_forget (fun q hq => hS.2.2 q hq) ?_
      refine W.widen (k := 600000) (n := 7302250) (Nat.le_of_ble_eq_true rfl) (Nat.le_of_ble_eq_true rfl) ?_
      exact lw_ret hx hb hr hlocks dL_law_790
    · have hi5 : i + 5 ≤ L := lw_cmp hi hL c1
      refine lv_aload_n hx hb dL_law_26 rfl (lv_at hl 3 rfl) ?_
      refine lv_iload_n hx hb dL_law_27 rfl (lv_at hl 0 rfl) ?_
      refine va_sld hx hb hX hbl hbA hS (vp_in_nI (by omega) (by omega)) dL_law_28 ?_
      refine lv_bipush (v := 31) hx hb dL_law_29 (by decide) ?_
      refine lv_iand hx hb dL_law_31 ?_
      obtain ⟨k, hk, ek⟩ := lw_31 (xs (nI i).toNatClampNeg)
      rw [ek]
      refine lw_disp K (Nat.le_of_ble_eq_true rfl) (Nat.le_of_ble_eq_true rfl) hi5 hL hl hP hS hR (fun H locs M n hP hS hR => ?_) k hk
      refine lv_iinc (v := nI (i + 5)) (lv' := [(3, .int (nI (i + 5))), (2, .ref (g.2.2 + 127)), (1, .ref (g.2.2 + 0)), (0, .ref b)]) hx hb dL_law_783 hl (k := 0) rfl (nI_add i 5) (by decide) rfl (fun ls hl => ?_)
      refine lv_goto (tgt := 18) hx hb dL_law_786 (by decide) ?_
      exact ih (i + 5) (by omega) hi5 H locs M n ls hP hS hR hl
