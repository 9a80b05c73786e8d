/-! ONE MEMORY FOR ALL: offsets from the first cell that the law makes; each cell has a fixed shape; a memory says what each slot holds -/
abbrev tm_M : Type := Nat → Nat → Int32
/-- the classes' numbers, the array classes' numbers, the first cell's address -/
abbrev tm_G : Type := va_G × (Nat → ClassId) × Nat
def tm_st (M : tm_M) (o k : Nat) (v : Int32) : tm_M := fun a => if a = o then upd (M o) k v else M a
theorem tm_st_eq (M : tm_M) (o k : Nat) (v : Int32) : tm_st M o k v o = upd (M o) k v := if_pos rfl
theorem tm_st_ne (M : tm_M) (o k : Nat) (v : Int32) {a : Nat} (h : a ≠ o) : tm_st M o k v a = M a := if_neg h
def tm_yshp (r : Nat) : Nat := if r = 0 then 7 else if r = 1 then 5 else if r = 2 then 13 else 0
/-- the shape of the cell at an offset: 0 Life, 1 Plain, 2 Proud, 3 Sulky, 4 Sunday, 5 Terms, 6 Text, 7 Year, 8 the desk, 9 the model, 10 int[], 11 boolean[], 12 Couple[], 13 Life[], 14 Year[] -/
def tm_shp (o : Nat) : Nat :=
  if o = 0 then 8 else if o = 1 then 1 else if o = 2 then 6 else if o < 7 then 10 else if o = 7 then 12 else if o = 8 then 2 else if o = 9 then 4 else if o = 10 then 3
  else if o < 29 then tm_yshp ((o - 11) % 9) else if o = 29 then 14 else if o < 48 then tm_yshp ((o - 30) % 9) else if o = 48 then 11 else if o = 49 then 14
  else if o < 122 then tm_yshp ((o - 50) % 9) else if o < 125 then 10 else if o = 125 then 0 else if o = 126 then 10 else if o = 127 then 9 else if o = 133 then 11 else if o < 143 then 10 else 99
def tm_len (o : Nat) : Nat :=
  if o = 3 then 160 else if o < 7 then 14 else if o = 29 then 2 else if o = 48 then 2 else if o = 49 then 8 else if o < 125 then 6 else if o = 126 then 60 else if o = 128 then 77 else if o < 132 then 6
  else if o = 132 then 672 else if o = 133 then 2 else if o < 138 then 6 else if o = 138 then 160 else if o = 139 then 18 else if o = 140 then 18 else if o = 141 then 6 else 60
/-- what an array of references holds -/
def tm_ra (o i : Nat) : Nat := if o = 7 then (if i = 0 then 1 else 7 + i) else if o = 29 then 30 + 9 * i else if o = 49 then 50 + 9 * i else o + 1 + i
def tm_nat (g : tm_G) (x : Int32) : Value := if x = 0 then .null else .ref (g.2.2 + x.toNatClampNeg)
def flX1 (g : tm_G) (_ : Nat) (v : Nat → Int32) : List Value := [tm_nat g (v 0), .int (v 1), .int (v 2), .int (v 3), .int (v 4), .int (v 5), .int (v 6), .int (v 7), .int (v 8), .int (v 9), .int (v 10), .int (v 11)]
def flX6 (_ : tm_G) (_ : Nat) (v : Nat → Int32) : List Value := [.int (v 0), .int (v 1), .int (v 2), .int (v 3), .int (v 4), .int (v 5)]
def flX7 (g : tm_G) (o : Nat) (v : Nat → Int32) : List Value := [.ref (g.2.2 + (o + 2)), .ref (g.2.2 + (o + 3)), .ref (g.2.2 + (o + 4)), .int (v 3), .int (v 4), .ref (g.2.2 + (o + 1)), .int (v 6), .int (v 7)]
def flX8 (g : tm_G) (o : Nat) (v : Nat → Int32) : List Value := [.ref (g.2.2 + (o + 1)), .ref (g.2.2 + (o + 2)), .int (v 2), .int (v 3)]
def flX9 (g : tm_G) (_ : Nat) (v : Nat → Int32) : List Value := [.ref (g.2.2 + 2), .ref (g.2.2 + 7), .ref (g.2.2 + 11), .ref (g.2.2 + 20), .ref (g.2.2 + 29), .ref (g.2.2 + 48), .ref (g.2.2 + 49), .int (v 7), .int (v 8), .ref (g.2.2 + 122), .ref (g.2.2 + 123), .ref (g.2.2 + 124), .int (v 12), .ref (g.2.2 + 125), .ref (g.2.2 + 126)]
def flX10 (g : tm_G) (_ : Nat) (v : Nat → Int32) : List Value := [.ref (g.2.2 + 128), .ref (g.2.2 + 129), .ref (g.2.2 + 130), .ref (g.2.2 + 131), .ref (g.2.2 + 132), .int (v 5), .ref (g.2.2 + 133), .int (v 7), .ref (g.2.2 + 134), .ref (g.2.2 + 135), .ref (g.2.2 + 136), .ref (g.2.2 + 137), .ref (g.2.2 + 138), .int (v 13), .ref (g.2.2 + 139), .int (v 15), .int (v 16), .int (v 17), .int (v 18), .ref (g.2.2 + 140), .ref (g.2.2 + 141), .int (v 21), .ref (g.2.2 + 142)]
def tm_mk (g : tm_G) (o k : Nat) (v : Nat → Int32) : va_E := match k with
  | 0 => .inr (0, flX1 g o v)
  | 1 => .inr (1, [])
  | 2 => .inr (2, [])
  | 3 => .inr (3, [])
  | 4 => .inr (4, [])
  | 5 => .inr (5, flX6 g o v)
  | 6 => .inr (6, flX7 g o v)
  | 7 => .inr (7, flX8 g o v)
  | 8 => .inr (8, flX9 g o v)
  | 9 => .inr (9, flX10 g o v)
  | 10 => .inl (g.2.1 0, tm_len o, .inl v)
  | 11 => .inl (g.2.1 1, tm_len o, .inl v)
  | 12 => .inl (g.2.1 2, 4, .inr (.inr (.inr (.inr (fun j => some (g.2.2 + tm_ra o j))))))
  | 13 => .inl (g.2.1 3, 6, .inr (.inr (.inr (.inr (fun j => some (g.2.2 + tm_ra o j))))))
  | 14 => .inl (g.2.1 4, tm_len o, .inr (.inr (.inr (.inr (fun j => some (g.2.2 + tm_ra o j))))))
  | _ => .inr (1, [])
def tm_ws (g : tm_G) (L : List Nat) (M : tm_M) : va_W := L.map fun o => (g.2.2 + o, tm_mk g o (tm_shp o) (M o))
def tm_tys (g : tm_G) : List (ClassId × FieldType) := [(g.2.1 0, .int), (g.2.1 1, .boolean), (g.2.1 2, .object "QuarrelDesk$Couple"), (g.2.1 3, .object "QuarrelDesk$Life"), (g.2.1 4, .object "QuarrelDesk$Year")]
theorem tm_shpS : ∀ o, o < 143 → tm_shp o < 15 := by decide +kernel
theorem tm_shp_out {o : Nat} (h : 143 ≤ o) : tm_shp o = 99 := by
  unfold tm_shp
  repeat (rw [if_neg (by omega)])
theorem tm_lt {o k : Nat} (h : tm_shp o = k) (hk : k < 99 := by decide) : o < 143 := by
  rcases Nat.lt_or_ge o 143 with h1 | h1
  · exact h1
  · rw [tm_shp_out h1] at h; omega
theorem tm_wat {g : tm_G} {L : List Nat} {M : tm_M} {i o : Nat} (hi : L[i]? = some o) : (tm_ws g L M)[i]? = some (g.2.2 + o, tm_mk g o (tm_shp o) (M o)) := by
  unfold tm_ws
  rw [List.getElem?_map, hi]
  rfl
theorem tm_wset {g : tm_G} {L : List Nat} {M : tm_M} {A : Nat → Prop} {i o k : Nat} {x : Int32} (hD : va_D A (tm_ws g L M)) (hi : L[i]? = some o) : (tm_ws g L M).set i (g.2.2 + o, tm_mk g o (tm_shp o) (upd (M o) k x)) = tm_ws g L (tm_st M o k x) := by
  apply List.ext_getElem?
  intro j
  by_cases hj : i = j
  · subst hj
    have hl : i < (tm_ws g L M).length := (List.getElem?_eq_some_iff.mp (tm_wat (g := g) (M := M) hi)).1
    rw [List.getElem?_set_self hl, tm_wat hi, tm_st_eq]
  · rw [List.getElem?_set_ne hj]
    cases hLj : L[j]? with
    | none => simp [tm_ws, hLj]
    | some o2 =>
      rw [tm_wat hLj, tm_wat hLj]
      have hne : o2 ≠ o := fun e => hj (hD.1 i j _ _ (tm_wat hi) (tm_wat hLj) (by rw [e]))
      rw [tm_st_ne _ _ _ _ hne]
theorem tm_mkX1 {g : tm_G} {o : Nat} (hs : tm_shp o = 0) (v : Nat → Int32) : tm_mk g o (tm_shp o) v = .inr (0, flX1 g o v) := by rw [hs]; rfl
theorem tm_mkX2 {g : tm_G} {o : Nat} (hs : tm_shp o = 1) (v : Nat → Int32) : tm_mk g o (tm_shp o) v = .inr (1, []) := by rw [hs]; rfl
theorem tm_mkX3 {g : tm_G} {o : Nat} (hs : tm_shp o = 2) (v : Nat → Int32) : tm_mk g o (tm_shp o) v = .inr (2, []) := by rw [hs]; rfl
theorem tm_mkX4 {g : tm_G} {o : Nat} (hs : tm_shp o = 3) (v : Nat → Int32) : tm_mk g o (tm_shp o) v = .inr (3, []) := by rw [hs]; rfl
theorem tm_mkX5 {g : tm_G} {o : Nat} (hs : tm_shp o = 4) (v : Nat → Int32) : tm_mk g o (tm_shp o) v = .inr (4, []) := by rw [hs]; rfl
theorem tm_mkX6 {g : tm_G} {o : Nat} (hs : tm_shp o = 5) (v : Nat → Int32) : tm_mk g o (tm_shp o) v = .inr (5, flX6 g o v) := by rw [hs]; rfl
theorem tm_mkX7 {g : tm_G} {o : Nat} (hs : tm_shp o = 6) (v : Nat → Int32) : tm_mk g o (tm_shp o) v = .inr (6, flX7 g o v) := by rw [hs]; rfl
theorem tm_mkX8 {g : tm_G} {o : Nat} (hs : tm_shp o = 7) (v : Nat → Int32) : tm_mk g o (tm_shp o) v = .inr (7, flX8 g o v) := by rw [hs]; rfl
theorem tm_mkX9 {g : tm_G} {o : Nat} (hs : tm_shp o = 8) (v : Nat → Int32) : tm_mk g o (tm_shp o) v = .inr (8, flX9 g o v) := by rw [hs]; rfl
theorem tm_mkX10 {g : tm_G} {o : Nat} (hs : tm_shp o = 9) (v : Nat → Int32) : tm_mk g o (tm_shp o) v = .inr (9, flX10 g o v) := by rw [hs]; rfl
theorem tm_mkI {g : tm_G} {o n : Nat} (hs : tm_shp o = 10) (hn : tm_len o = n) (v : Nat → Int32) : tm_mk g o (tm_shp o) v = .inl (g.2.1 0, n, .inl v) := by rw [hs, ← hn]; rfl
theorem tm_mkZ {g : tm_G} {o n : Nat} (hs : tm_shp o = 11) (hn : tm_len o = n) (v : Nat → Int32) : tm_mk g o (tm_shp o) v = .inl (g.2.1 1, n, .inl v) := by rw [hs, ← hn]; rfl
theorem tm_mkC {g : tm_G} {o : Nat} (hs : tm_shp o = 12) (v : Nat → Int32) : tm_mk g o (tm_shp o) v = .inl (g.2.1 2, 4, .inr (.inr (.inr (.inr (fun j => some (g.2.2 + tm_ra o j)))))) := by rw [hs]; rfl
theorem tm_mkL {g : tm_G} {o : Nat} (hs : tm_shp o = 13) (v : Nat → Int32) : tm_mk g o (tm_shp o) v = .inl (g.2.1 3, 6, .inr (.inr (.inr (.inr (fun j => some (g.2.2 + tm_ra o j)))))) := by rw [hs]; rfl
theorem tm_mkY {g : tm_G} {o n : Nat} (hs : tm_shp o = 14) (hn : tm_len o = n) (v : Nat → Int32) : tm_mk g o (tm_shp o) v = .inl (g.2.1 4, n, .inr (.inr (.inr (.inr (fun j => some (g.2.2 + tm_ra o j)))))) := by rw [hs, ← hn]; rfl
/-! reads and writes of arrays, as numbers -/
def tm_vin (i : Int32) (n : Nat) : Bool := !(decide (i < 0)) && decide (i.toNatClampNeg < n)
theorem tm_vin_in {i : Int32} {n : Nat} (h : tm_vin i n = true) : vp_in i n := by
  simp only [tm_vin, Bool.and_eq_true, Bool.not_eq_true', decide_eq_false_iff_not, decide_eq_true_eq] at h
  intro q
  rcases q with q | q
  · exact h.1 q
  · omega
def tm_rd (M : tm_M) (o n : Nat) (i : Int32) : Option Int32 := if tm_vin i n = true then some (M o i.toNatClampNeg) else none
def tm_wr (M : tm_M) (o n : Nat) (i v : Int32) : Option tm_M := if tm_vin i n = true then some (tm_st M o i.toNatClampNeg v) else none
def tm_rdr (o n : Nat) (i : Int32) : Option Nat := if tm_vin i n = true then some (tm_ra o i.toNatClampNeg) else none
theorem tm_rd_some {M : tm_M} {o n : Nat} {i x : Int32} (h : tm_rd M o n i = some x) : vp_in i n ∧ M o i.toNatClampNeg = x := by
  unfold tm_rd at h
  split at h
  · exact ⟨tm_vin_in ‹_›, Option.some.inj h⟩
  · cases h
theorem tm_wr_some {M M1 : tm_M} {o n : Nat} {i v : Int32} (h : tm_wr M o n i v = some M1) : vp_in i n ∧ M1 = tm_st M o i.toNatClampNeg v := by
  unfold tm_wr at h
  split at h
  · exact ⟨tm_vin_in ‹_›, (Option.some.inj h).symm⟩
  · cases h
theorem tm_rdr_some {o n : Nat} {i : Int32} {x : Nat} (h : tm_rdr o n i = some x) : vp_in i n ∧ tm_ra o i.toNatClampNeg = x := by
  unfold tm_rdr at h
  split at h
  · exact ⟨tm_vin_in ‹_›, Option.some.inj h⟩
  · cases h
/-- a guard -/
def tm_gd {α : Type} (b : Prop) [Decidable b] (k : Option α) : Option α := if b then k else none
theorem tm_gd_some {α : Type} {b : Prop} [Decidable b] {k : Option α} {x : α} (h : tm_gd b k = some x) : b ∧ k = some x := by
  unfold tm_gd at h
  split at h
  · exact ⟨‹_›, h⟩
  · cases h
theorem tm_bd_some {α β : Type} {a : Option α} {f : α → Option β} {x : β} (h : a.bind f = some x) : ∃ y, a = some y ∧ f y = some x := Option.bind_eq_some_iff.mp h
def tm_rds (f : Nat → Int32) (n : Nat) (i : Int32) : Option Int32 := if tm_vin i n = true then some (f i.toNatClampNeg) else none
theorem tm_rds_some {f : Nat → Int32} {n : Nat} {i x : Int32} (h : tm_rds f n i = some x) : vp_in i n ∧ f i.toNatClampNeg = x := by
  unfold tm_rds at h
  split at h
  · exact ⟨tm_vin_in ‹_›, Option.some.inj h⟩
  · cases h
/-- every cell -/
abbrev tm_all (o : Nat) : Prop := o < 143
theorem tm_natv {g : tm_G} {o : Nat} {f : Nat → Int32} (h : ¬ f 0 = 0) : (flX1 g o f)[0]? = some (.ref (g.2.2 + (f 0).toNatClampNeg)) := by
  show some (tm_nat g (f 0)) = _
  rw [tm_nat, if_neg h]
theorem tm_natP {g : tm_G} {o n : Nat} {f : Nat → Int32} (h : 0 < n ∧ n < 143) : flX1 g o (upd f 0 (nI n)) = (flX1 g o f).set 0 (.ref (g.2.2 + n)) := by
  have h1 : tm_nat g (nI n) = .ref (g.2.2 + n) := by
    rw [tm_nat, if_neg (nI_ne0 h.1 (by omega)), nI_clamp (by omega)]
  show (tm_nat g (nI n) :: _ : List Value) = (.ref (g.2.2 + n) :: _ : List Value)
  rw [h1]
  rfl
/-- a truth value -/
def tm_isB (x : Int32) : Prop := x = 0 ∨ x = 1
theorem tm_isB_narrow {x : Int32} (h : tm_isB x) : narrow .boolean (.int x) = .int x := by
  rcases h with rfl | rfl <;> rfl
theorem tm_isB_fits {x : Int32} (h : tm_isB x) : fits .boolean (.int x) = true := by
  rcases h with rfl | rfl <;> rfl
/-! what the program's start gives and nobody changes: table rows, two static arrays, a text -/
def tm_least (j : Nat) : Int32 := if j = 3 then 1 else if j = 4 then 1 else 0
def tm_most (j : Nat) : Int32 := if j = 0 then 50 else if j = 2 then 50 else if j = 5 then 20 else 99
def tm_words : List Int32 := [100, 101, 115, 107, 32, 32, 32, 112, 108, 97, 105, 110, 32, 32, 112, 114, 111, 117, 100, 32, 32, 115, 117, 110, 100, 97, 121, 32, 115, 117, 108, 107, 121, 32, 32, 101, 120, 99, 101, 115, 115, 32, 99, 111, 118, 101, 114, 32, 32, 112, 114, 101, 109, 105, 117, 109, 116, 105, 102, 102, 32, 32, 32, 98, 114, 101, 97, 107, 32, 32, 114, 101, 108, 105, 101, 102, 32]
def tm_text : String := "desk   plain  proud  sunday sulky  excess cover  premiumtiff   break  relief "
def tm_cst : List (String × String) := [("QuarrelDesk$Plain", "QuarrelDesk$Couple"), ("QuarrelDesk$Proud", "QuarrelDesk$Plain"), ("QuarrelDesk$Proud", "QuarrelDesk$Couple"), ("QuarrelDesk$Sunday", "QuarrelDesk$Plain"), ("QuarrelDesk$Sunday", "QuarrelDesk$Couple"), ("QuarrelDesk$Sulky", "QuarrelDesk$Couple")]
def tm_nc : List (String × String) := [("QuarrelDesk$Plain", "QuarrelDesk$Proud"), ("QuarrelDesk$Plain", "QuarrelDesk$Sunday"), ("QuarrelDesk$Plain", "QuarrelDesk$Sulky"), ("QuarrelDesk$Proud", "QuarrelDesk$Sunday"), ("QuarrelDesk$Proud", "QuarrelDesk$Sulky"), ("QuarrelDesk$Sunday", "QuarrelDesk$Proud"), ("QuarrelDesk$Sunday", "QuarrelDesk$Sulky"), ("QuarrelDesk$Sulky", "QuarrelDesk$Plain"), ("QuarrelDesk$Sulky", "QuarrelDesk$Proud"), ("QuarrelDesk$Sulky", "QuarrelDesk$Sunday")]
def tm_nest : List (String × Nat × MethodName × String) := [("QuarrelDesk$Text", 69, yX9_outside, "QuarrelDesk"), ("QuarrelDesk", 9, yX2_init, "QuarrelDesk"), ("QuarrelDesk", 23, yX3_init, "QuarrelDesk"), ("QuarrelDesk", 26, yX5_init, "QuarrelDesk"), ("QuarrelDesk", 29, yX4_init, "QuarrelDesk"), ("QuarrelDesk$Plain", 1, yX0_init, "QuarrelDesk"), ("QuarrelDesk$Proud", 1, yX2_init, "QuarrelDesk"), ("QuarrelDesk$Sulky", 1, yX0_init, "QuarrelDesk"), ("QuarrelDesk$Sunday", 1, yX2_init, "QuarrelDesk")]
def tm_decl : List MethodName := [⟨"QuarrelDesk$Couple", "number", "()I"⟩, ⟨"QuarrelDesk$Couple", "quarrel", "(LQuarrelDesk$Life;ILQuarrelDesk$Terms;)V"⟩]
/-- the words of a call of an inherited static method (the printed lists of words leave them out) -/
def tm_xw : List Cond := [.methodLink RX5 7 ⟨RX5, "isSunday", "(I)Z"⟩, .sameMethod RX5 RX0 "isSunday" "(I)Z", .static yX0_isSunday, .initialized RX0] ++ wsX0_isSunday
theorem tm_xw_ok : ∀ w ∈ tm_xw, (w.onTables && w.keeps) = true := by decide +kernel
theorem tm_xw_on {w : Cond} (h : w ∈ tm_xw) : w.onTables = true := by
  have h1 := tm_xw_ok w h
  rw [Bool.and_eq_true] at h1
  exact h1.1
def tm_S (g : tm_G) (A : Nat → Prop) (U : State) (H : Heap) : Prop :=
  (∀ q ∈ tm_nest, va_Nw (.methodLinkNest q.1 q.2.1 q.2.2.1 q.2.2.2) U) ∧ (∀ x ∈ tm_decl, va_Nw (.declares x) U) ∧ va_Nw (.fieldLinkNest "QuarrelDesk$Text" 60 "QuarrelDesk" "TERM_LEAST" "[I" "QuarrelDesk") U ∧ va_Nw (.fieldLinkNest "QuarrelDesk$Text" 63 "QuarrelDesk" "TERM_MOST" "[I" "QuarrelDesk") U ∧
  (∀ q ∈ tm_cst, va_Nw (.castable q.1 q.2) U) ∧ (∀ q ∈ tm_nc, va_Nc q.1 q.2 U) ∧
  (∃ t, va_Z "QuarrelDesk" "TERM_LEAST" "[I" (.ref t) A U H ∧ va_T .int t 6 (fun j => .int (tm_least j)) A U H) ∧
  (∃ t, va_Z "QuarrelDesk" "TERM_MOST" "[I" (.ref t) A U H ∧ va_T .int t 6 (fun j => .int (tm_most j)) A U H) ∧
  va_Z "java/lang/String" "COMPACT_STRINGS" "Z" (.int 1) A U H ∧
  (vk_S 1 [77] [tm_words] (fun _ => g.2.1 5) (fun _ => g.2.1 6) A U H ∧ vk_R "QuarrelDesk$Text" 81 tm_text (g.2.1 5) U) ∧
  (∀ w ∈ tm_xw, va_Nw w U) ∧ va_Zq "jdk/internal/util/Preconditions" "SIOOBE_FORMATTER" "Ljava/util/function/BiFunction;" A U H
theorem tm_S.kept {g : tm_G} {A : Nat → Prop} {U : State} {H H1 : Heap} (h : tm_S g A U H) (hq : ∀ a : Nat, a < H.size → ¬ A a → H1[a]? = H[a]?) : tm_S g A U H1 := by
  obtain ⟨h1, h1d, h2, h3, h4, h5, ⟨t1, h6, h7⟩, ⟨t2, h8, h9⟩, h10, ⟨h11, h12⟩, h13, h14⟩ := h
  exact ⟨h1, h1d, h2, h3, h4, h5, ⟨t1, h6.kept hq, h7.kept hq⟩, ⟨t2, h8.kept hq, h9.kept hq⟩, h10.kept hq, ⟨h11.kept hq, h12⟩, h13, h14.kept hq⟩
theorem tm_S.warm {g : tm_G} {A : Nat → Prop} {s U : State} {H : Heap} (hW : s.WarmedH U.vm) (h : tm_S g A s H) : tm_S g A U H := by
  obtain ⟨h1, h1d, h2, h3, h4, h5, ⟨t1, h6, h7⟩, ⟨t2, h8, h9⟩, h10, ⟨h11, h12⟩, h13, h14⟩ := h
  exact ⟨fun q hq => va_Nw.warmM hW (h1 q hq), fun q hq => va_Nw.warmD hW (h1d q hq), va_Nw.warmF hW h2, va_Nw.warmF hW h3, fun q hq => va_Nw.warmC hW (h4 q hq), fun q hq => (h5 q hq).moved hW.alike, ⟨t1, h6.moved hW.alike, h7.moved hW.alike⟩, ⟨t2, h8.moved hW.alike, h9.moved hW.alike⟩, h10.moved hW.alike, ⟨h11.moved hW.alike, h12.warm hW⟩, fun w hw => word_at hW (Or.inl (tm_xw_ok w hw)) (h13 w hw), h14.moved hW.alike⟩
theorem tm_S.same {g : tm_G} {A : Nat → Prop} {u U : State} {H : Heap} (hv : u.vm = U.vm) (h : tm_S g A u H) : tm_S g A U H := by
  have ha : u.vm.Alike U.vm := by rw [hv]; exact Vm.Alike.refl _
  obtain ⟨h1, h1d, h2, h3, h4, h5, ⟨t1, h6, h7⟩, ⟨t2, h8, h9⟩, h10, ⟨h11, h12⟩, h13, h14⟩ := h
  exact ⟨fun q hq => va_Nw.same rfl hv (h1 q hq), fun q hq => va_Nw.same rfl hv (h1d q hq), va_Nw.same rfl hv h2, va_Nw.same rfl hv h3, fun q hq => va_Nw.same rfl hv (h4 q hq), fun q hq => (h5 q hq).moved ha, ⟨t1, h6.moved ha, h7.moved ha⟩, ⟨t2, h8.moved ha, h9.moved ha⟩, h10.moved ha, ⟨h11.moved ha, h12.same hv.symm⟩, fun w hw => va_Nw.same (tm_xw_on hw) hv (h13 w hw), h14.moved ha⟩
theorem tm_S.narrow {g : tm_G} {A B : Nat → Prop} {U : State} {H : Heap} (h : tm_S g A U H) (hAB : ∀ q, B q → A q) : tm_S g B U H := by
  obtain ⟨h1, h1d, h2, h3, h4, h5, ⟨t1, h6, h7⟩, ⟨t2, h8, h9⟩, h10, ⟨h11, h12⟩, h13, h14⟩ := h
  exact ⟨h1, h1d, h2, h3, h4, h5, ⟨t1, h6.narrow hAB, h7.narrow hAB⟩, ⟨t2, h8.narrow hAB, h9.narrow hAB⟩, h10.narrow hAB, ⟨h11.narrow hAB, h12⟩, h13, h14.narrow hAB⟩
/-- the world, at a state -/
def tm_Z (g : tm_G) (A : Nat → Prop) (L : List Nat) (M : tm_M) (U : State) : Prop := va_P g.1 vwCl (tm_ws g L M) U.heap ∧ va_K g.1 vwCl (tm_tys g) U ∧ tm_S g A U U.heap
theorem tm_Z.at {g : tm_G} {A : Nat → Prop} {L : List Nat} {M : tm_M} {s U : State} {H : Heap} {locs : List Loc} (hP : va_P g.1 vwCl (tm_ws g L M) H) (hK : va_K g.1 vwCl (tm_tys g) s) (hG : tm_S g A s s.heap) (hS : va_S A s.heap H locs) (hU : U.heap = H) (hW : s.WarmedH U.vm) : tm_Z g A L M U :=
  ⟨by rw [hU]; exact hP, va_K.moved hW.alike hK, by rw [hU]; exact (hG.kept hS.2.1).warm hW⟩
theorem tm_Z.blind {g : tm_G} {A : Nat → Prop} {L : List Nat} {M : tm_M} (avs : List Value) : FrameBlind (va_Pc avs (tm_Z g A L M)) :=
  fun a U f mk q => ⟨q.1, q.2.1, va_K.moved (u := U) (U := U.calling f mk a) (Vm.Alike.refl U.vm) q.2.2.1, tm_S.same (u := U) rfl q.2.2.2⟩
/-- what a method's walk stands on -/
def tm_C (p : Program) (m : MethodId) (c : Code) (cc : ByteArray) (nL : Nat) (s : State) (args : Array Value) (Ts : List Cond) (own : String) (meth : Method) (ret : Option FieldType) (g : tm_G) (A : Nat → Prop) (L : List Nat) (F : Nat → Prop) : Prop :=
  CallFix p m c cc nL s args Ts own ∧ meth.sig.returnType = ret ∧ meth.locks = false ∧ va_K g.1 vwCl (tm_tys g) s ∧ (∀ M, va_D A (tm_ws g L M)) ∧ tm_S g A s s.heap ∧ ∀ o, F o → o ∈ L
abbrev tm_QI (g : tm_G) (A : Nat → Prop) (L : List Nat) (R0 : Int32 × tm_M) : Array Value → State → Outcome → State → Prop := va_Qi (fun (r : Int32) (u : tm_M) => (r, u) = R0) (fun u t => tm_Z g A L u t) A
abbrev tm_QV (g : tm_G) (A : Nat → Prop) (L : List Nat) (M0 : tm_M) : Array Value → State → Outcome → State → Prop := va_Qv (fun (u : tm_M) => u = M0) (fun u t => tm_Z g A L u t) A
abbrev tm_PC (g : tm_G) (A : Nat → Prop) (L : List Nat) (M : tm_M) (avs : List Value) : Array Value → State → Prop := va_Pc avs (tm_Z g A L M)
section TMR
variable {p : Program} {l : Launch} {e : Env} {R : Room} {s : State} {m : MethodId} {args : Array Value} {below : List Frame} {meth : Method} {c : Code} {H : Heap} {locs : List Loc} {cells slots : Nat} {Q : State → Prop}
variable {cc : ByteArray} {pc : Nat} {ls : Array Slot} {rest : List Value} {g : tm_G} {A : Nat → Prop} {L : List Nat} {M M' : tm_M} {own : String} {Ts : List Cond} {nL : Nat} {ret : Option FieldType} {F : Nat → Prop}
/-- the room at a start: the world's parts that the walk uses -/
theorem tm_get (hexec : p.tables.exec = Jvm.exec) (hb : c.code = cc) {C : String} {T : u_T} {N index : Nat} (hts : ∀ w ∈ Ts, w.before args s = true) (hin : ∀ w ∈ u_ws C T N, w ∈ Ts) (hown : s.vm.findClass own = some m.cls) (hK : va_K g.1 vwCl (tm_tys g) s) (hP : va_P g.1 vwCl (tm_ws g L M) H) {o ci : Nat} {fs : List Value} (ho : o ∈ L) (hs : tm_mk g o (tm_shp o) (M o) = .inr (ci, fs)) (hc : vwCl[ci]? = some (C, T, N)) (k : Nat) (hk : k < N) (hlink : (Cond.fieldLink own index (T k).1 (T k).2.1 (T k).2.2.1).before args s = true) {v : Value} (hv : fs[k]? = some v) (hdg : decode cc pc = .ok (.getfield index, 3))
    (kk : W p l e R s m args below meth c H locs cells slots Q (F0 m (pc + 3) ls (v :: rest))) : W p l e R s m args below meth c H locs cells slots Q (F0 m pc ls (.ref (g.2.2 + o) :: rest)) := by
  obtain ⟨i, hi⟩ := List.getElem?_of_mem ho
  exact va_get hexec hb hts hin hown hK hP i ((tm_wat hi).trans (by rw [hs])) hc k hk hlink (fun _ h => h) hv hdg kk
theorem tm_put (hexec : p.tables.exec = Jvm.exec) (hb : c.code = cc) {C : String} {T : u_T} {N index : Nat} (hts : ∀ w ∈ Ts, w.before args s = true) (hin : ∀ w ∈ u_ws C T N, w ∈ Ts) (ty0 : Nat → FieldType) (hty : ∀ k, k < N → parseFieldDescriptor (T k).2.2.1 = some (ty0 k)) (hnm : ∀ a, a < N → ∀ b, b < N → a ≠ b → (T a).2.1 ≠ (T b).2.1) (hown : s.vm.findClass own = some m.cls) (hK : va_K g.1 vwCl (tm_tys g) s) (hP : va_P g.1 vwCl (tm_ws g L M) H) (hD : ∀ M, va_D A (tm_ws g L M)) (hS : va_S A s.heap H locs) {o ci : Nat} {fl : (Nat → Int32) → List Value} (ho : o ∈ L) (hs : ∀ v, tm_mk g o (tm_shp o) v = .inr (ci, fl v)) (hc : vwCl[ci]? = some (C, T, N)) (k : Nat) (hk : k < N) (hlink : (Cond.fieldLink own index (T k).1 (T k).2.1 (T k).2.2.1).before args s = true) (hfin : (T k).2.2.2 = false) {ty : FieldType} {v : Value} {x : Int32} (hd : parseFieldDescriptor (T k).2.2.1 = some ty) (hn : narrow ty v = v) (hfit : fits ty v = true) (hl : k < (fl (M o)).length) (he : fl (upd (M o) k x) = (fl (M o)).set k v) (hM : tm_st M o k x = M') (hdg : decode cc pc = .ok (.putfield index, 3))
    (kk : ∀ (H1 : Heap) (locs1 : List Loc), va_P g.1 vwCl (tm_ws g L M') H1 → va_S A s.heap H1 locs1 → W p l e R s m args below meth c H1 locs1 cells slots Q (F0 m (pc + 3) ls rest)) : W p l e R s m args below meth c H locs cells slots Q (F0 m pc ls (v :: .ref (g.2.2 + o) :: rest)) := by
  obtain ⟨i, hi⟩ := List.getElem?_of_mem ho
  refine va_put hexec hb hts hin ty0 hty hnm hown hK hP (hD M) hS i ((tm_wat hi).trans (by rw [hs])) hc k hk hlink (fun _ h => h) hfin hd hn hfit hl hdg (fun H1 locs1 hP1 _ hS1 => kk H1 locs1 ?_ hS1)
  rw [← hM, ← tm_wset (hD M) hi, hs, he]
  exact hP1
theorem tm_iald (hexec : p.tables.exec = Jvm.exec) (hb : c.code = cc) (hK : va_K g.1 vwCl (tm_tys g) s) (hP : va_P g.1 vwCl (tm_ws g L M) H) {o n : Nat} (ho : o ∈ L) (hs : ∀ v, tm_mk g o (tm_shp o) v = .inl (g.2.1 0, n, .inl v)) {i x : Int32} (hr : tm_rd M o n i = some x) (hdg : decode cc pc = .ok (.iaload, 1))
    (kk : W p l e R s m args below meth c H locs cells slots Q (F0 m (pc + 1) ls (.int x :: rest))) : W p l e R s m args below meth c H locs cells slots Q (F0 m pc ls (.int i :: .ref (g.2.2 + o) :: rest)) := by
  obtain ⟨q, hi⟩ := List.getElem?_of_mem ho
  obtain ⟨h1, h2⟩ := tm_rd_some hr
  refine va_iald hexec hb hK hP q 0 ((tm_wat hi).trans (by rw [hs])) rfl h1 hdg ?_
  rw [h2]; exact kk
theorem tm_zald (hexec : p.tables.exec = Jvm.exec) (hb : c.code = cc) (hK : va_K g.1 vwCl (tm_tys g) s) (hP : va_P g.1 vwCl (tm_ws g L M) H) {o n : Nat} (ho : o ∈ L) (hs : ∀ v, tm_mk g o (tm_shp o) v = .inl (g.2.1 1, n, .inl v)) {i x : Int32} (hr : tm_rd M o n i = some x) (hdg : decode cc pc = .ok (.baload, 1))
    (kk : W p l e R s m args below meth c H locs cells slots Q (F0 m (pc + 1) ls (.int x :: rest))) : W p l e R s m args below meth c H locs cells slots Q (F0 m pc ls (.int i :: .ref (g.2.2 + o) :: rest)) := by
  obtain ⟨q, hi⟩ := List.getElem?_of_mem ho
  obtain ⟨h1, h2⟩ := tm_rd_some hr
  refine va_zald hexec hb hK hP q 1 ((tm_wat hi).trans (by rw [hs])) rfl h1 hdg ?_
  rw [h2]; exact kk
theorem tm_iast (hexec : p.tables.exec = Jvm.exec) (hb : c.code = cc) (hK : va_K g.1 vwCl (tm_tys g) s) (hP : va_P g.1 vwCl (tm_ws g L M) H) (hD : ∀ M, va_D A (tm_ws g L M)) (hS : va_S A s.heap H locs) {o n : Nat} (ho : o ∈ L) (hs : ∀ v, tm_mk g o (tm_shp o) v = .inl (g.2.1 0, n, .inl v)) {i x : Int32} (hr : tm_wr M o n i x = some M') (hdg : decode cc pc = .ok (.iastore, 1))
    (kk : ∀ (H1 : Heap) (locs1 : List Loc), va_P g.1 vwCl (tm_ws g L M') H1 → va_S A s.heap H1 locs1 → W p l e R s m args below meth c H1 locs1 cells slots Q (F0 m (pc + 1) ls rest)) : W p l e R s m args below meth c H locs cells slots Q (F0 m pc ls (.int x :: .int i :: .ref (g.2.2 + o) :: rest)) := by
  obtain ⟨q, hi⟩ := List.getElem?_of_mem ho
  obtain ⟨h1, h2⟩ := tm_wr_some hr
  refine va_iast hexec hb hK hP (hD M) hS q 0 ((tm_wat hi).trans (by rw [hs])) rfl h1 hdg (fun H1 locs1 hP1 _ hS1 => kk H1 locs1 ?_ hS1)
  rw [h2, ← tm_wset (hD M) hi, hs]
  exact hP1
theorem tm_zast (hexec : p.tables.exec = Jvm.exec) (hb : c.code = cc) (hK : va_K g.1 vwCl (tm_tys g) s) (hP : va_P g.1 vwCl (tm_ws g L M) H) (hD : ∀ M, va_D A (tm_ws g L M)) (hS : va_S A s.heap H locs) {o n : Nat} (ho : o ∈ L) (hs : ∀ v, tm_mk g o (tm_shp o) v = .inl (g.2.1 1, n, .inl v)) {i x : Int32} (hx : tm_isB x) (hr : tm_wr M o n i x = some M') (hdg : decode cc pc = .ok (.bastore, 1))
    (kk : ∀ (H1 : Heap) (locs1 : List Loc), va_P g.1 vwCl (tm_ws g L M') H1 → va_S A s.heap H1 locs1 → W p l e R s m args below meth c H1 locs1 cells slots Q (F0 m (pc + 1) ls rest)) : W p l e R s m args below meth c H locs cells slots Q (F0 m pc ls (.int x :: .int i :: .ref (g.2.2 + o) :: rest)) := by
  obtain ⟨q, hi⟩ := List.getElem?_of_mem ho
  obtain ⟨h1, h2⟩ := tm_wr_some hr
  have hv : vp_nar .boolean x = x := by rcases hx with rfl | rfl <;> rfl
  refine va_zast hexec hb hK hP (hD M) hS q 1 ((tm_wat hi).trans (by rw [hs])) rfl h1 hdg (fun H1 locs1 hP1 _ hS1 => kk H1 locs1 ?_ hS1)
  rw [hv] at hP1
  rw [h2, ← tm_wset (hD M) hi, hs]
  exact hP1
theorem tm_aald (hexec : p.tables.exec = Jvm.exec) (hb : c.code = cc) (hK : va_K g.1 vwCl (tm_tys g) s) (hP : va_P g.1 vwCl (tm_ws g L M) H) {o n : Nat} (t : Nat) {C : String} (ho : o ∈ L) (hs : ∀ v, tm_mk g o (tm_shp o) v = .inl (g.2.1 t, n, .inr (.inr (.inr (.inr (fun j => some (g.2.2 + tm_ra o j))))))) (ht : (tm_tys g)[t]? = some (g.2.1 t, .object C)) {i : Int32} {x : Nat} (hr : tm_rdr o n i = some x) (hdg : decode cc pc = .ok (.aaload, 1))
    (kk : W p l e R s m args below meth c H locs cells slots Q (F0 m (pc + 1) ls (.ref (g.2.2 + x) :: rest))) : W p l e R s m args below meth c H locs cells slots Q (F0 m pc ls (.int i :: .ref (g.2.2 + o) :: rest)) := by
  obtain ⟨q, hi⟩ := List.getElem?_of_mem ho
  obtain ⟨h1, h2⟩ := tm_rdr_some hr
  refine va_aldq hexec hb hK hP q t ((tm_wat hi).trans (by rw [hs])) ht h1 hdg ?_
  show W p l e R s m args below meth c H locs cells slots Q (F0 m (pc + 1) ls (.ref (g.2.2 + tm_ra o i.toNatClampNeg) :: rest))
  rw [h2]; exact kk
theorem tm_ti (hexec : p.tables.exec = Jvm.exec) (hb : c.code = cc) {t n : Nat} {f : Nat → Int32} (hT : va_T .int t n (fun j => .int (f j)) A s s.heap) (hS : va_S A s.heap H locs) {i x : Int32} (hr : tm_rds f n i = some x) (hdg : decode cc pc = .ok (.iaload, 1))
    (kk : W p l e R s m args below meth c H locs cells slots Q (F0 m (pc + 1) ls (.int x :: rest))) : W p l e R s m args below meth c H locs cells slots Q (F0 m pc ls (.int i :: .ref t :: rest)) := by
  obtain ⟨h1, h2⟩ := tm_rds_some hr
  exact va_ti hexec hb hT hS h1 (by rw [h2]) hdg kk
theorem tm_alenC (hexec : p.tables.exec = Jvm.exec) (hb : c.code = cc) (hK : va_K g.1 vwCl (tm_tys g) s) (hP : va_P g.1 vwCl (tm_ws g L M) H) {o : Nat} (ho : o ∈ L) (hs : ∀ v, tm_mk g o (tm_shp o) v = .inl (g.2.1 2, 4, .inr (.inr (.inr (.inr (fun j => some (g.2.2 + tm_ra o j))))))) (hdg : decode cc pc = .ok (.arraylength, 1))
    (kk : W p l e R s m args below meth c H locs cells slots Q (F0 m (pc + 1) ls (.int 4 :: rest))) : W p l e R s m args below meth c H locs cells slots Q (F0 m pc ls (.ref (g.2.2 + o) :: rest)) := by
  obtain ⟨q, hi⟩ := List.getElem?_of_mem ho
  exact va_alen hexec hb hK hP q 2 ((tm_wat hi).trans (by rw [hs (M o)])) rfl rfl hdg kk
/-- a number gets a name -/
theorem tm_nam {α : Type} {ee : Int32} {f : Int32 → Option α} {R0 : α} (h : (some ee).bind f = some R0) (kk : ∀ x, f x = some R0 → W p l e R s m args below meth c H locs cells slots Q (F0 m pc ls (.int x :: rest))) : W p l e R s m args below meth c H locs cells slots Q (F0 m pc ls (.int ee :: rest)) := kk ee h
theorem tm_recv {o ci : Nat} {q : vw_C} {fs : List Value} (hK : va_K g.1 vwCl (tm_tys g) s) (hP : va_P g.1 vwCl (tm_ws g L M) H) (ho : o ∈ L) (hc : vwCl[ci]? = some q) (hs : tm_mk g o (tm_shp o) (M o) = .inr (ci, fs)) : ∃ cell : Cell, H[g.2.2 + o]? = some cell ∧ cell.vm.isStatics = false ∧ s.vm.findClass q.1 = some cell.cls := by
  obtain ⟨i, hi⟩ := List.getElem?_of_mem ho
  exact va_recv hK hP hc ((tm_wat hi).trans (by rw [hs]))
/-! calls: the callee's contract in, its answer and its memory out -/
theorem tm_backI {r0 : Int32} {M0 : tm_M} {As : List Value} {a : Array Value} {free : Addr → Prop} (hf : ∀ q, free q → A q) (hr : va_Run p l e R s m args below meth c H locs cells slots 0 0 (F0 m pc ls As) rest (tm_QI g A L (r0, M0) a) free) (hS : va_S A s.heap H locs)
    (kk : ∀ (H1 : Heap) (locs1 : List Loc), va_P g.1 vwCl (tm_ws g L M0) H1 → va_S A s.heap H1 locs1 → W p l e R s m args below meth c H1 locs1 cells slots Q (F0 m (pc + 3) ls (.int r0 :: rest))) : W p l e R s m args below meth c H locs cells slots Q (F0 m pc ls As) := by
  refine va_calli hr hS (fun q _ h => h) hf (fun r u t H1 locs1 ht _ hw hB _ _ hS1 => ?_)
  cases hw
  exact kk H1 locs1 (by rw [← ht]; exact hB.1) hS1
theorem tm_backV {M0 : tm_M} {As : List Value} {a : Array Value} {free : Addr → Prop} (hf : ∀ q, free q → A q) (hr : va_Run p l e R s m args below meth c H locs cells slots 0 0 (F0 m pc ls As) rest (tm_QV g A L M0 a) free) (hS : va_S A s.heap H locs)
    (kk : ∀ (H1 : Heap) (locs1 : List Loc), va_P g.1 vwCl (tm_ws g L M0) H1 → va_S A s.heap H1 locs1 → W p l e R s m args below meth c H1 locs1 cells slots Q (F0 m (pc + 3) ls rest)) : W p l e R s m args below meth c H locs cells slots Q (F0 m pc ls As) := by
  refine va_callv hr hS (fun q _ h => h) hf (fun u t H1 locs1 ht _ hw hB _ _ hS1 => ?_)
  subst hw
  exact kk H1 locs1 (by rw [← ht]; exact hB.1) hS1
variable {y : MethodName} {bytes : ByteArray} {maxL n index fr lo : Nat} {cret : Option FieldType} {ws : List Cond} {C : String} {o : Nat} {As : List Value}
theorem tm_callV {a : Nat} {Qc : Array Value → State → Outcome → State → Prop} (S : CallFix p m c cc nL s args Ts own) (hK : va_K g.1 vwCl (tm_tys g) s) (hG : tm_S g A s s.heap) (hP : va_P g.1 vwCl (tm_ws g L M) H) (hS : va_S A s.heap H locs) (hM : Met l y ws { frames := fr, cells := 0, slots := 0, locals := lo } (tm_PC g A L M (.ref (a) :: As)) Qc 0 0 A) (cw : CallW R s args own C index y bytes maxL cret ws { frames := fr, cells := 0, slots := 0, locals := lo } 0 0 n) (hr : ∃ cell : Cell, H[a]? = some cell ∧ cell.vm.isStatics = false ∧ s.vm.findClass C = some cell.cls) (hn : As.length = n) (hl : ls.size = nL) (hst : 2 * (F0 m pc ls (As.reverse ++ .ref (a) :: rest)).monitorRoom + (rest.map fun v => v.category).sum ≤ 8) (hdg : decode cc pc = .ok (.invokevirtual index, 3)) (hf : cells + 0 ≤ R.cells ∧ slots + 0 ≤ R.slots) :
    va_Run p l e R s m args below meth c H locs cells slots 0 0 (F0 m pc ls (As.reverse ++ .ref (a) :: rest)) rest (Qc (Value.ref (a) :: As).toArray) A :=
  va_runV S hM cw ⟨tm_Z.blind _, hr, fun _ hU hW => ⟨rfl, tm_Z.at hP hK hG hS hU hW⟩⟩ rfl hn hl rfl hst hdg hf
theorem tm_callS {Qc : Array Value → State → Outcome → State → Prop} (S : CallFix p m c cc nL s args Ts own) (hK : va_K g.1 vwCl (tm_tys g) s) (hG : tm_S g A s s.heap) (hP : va_P g.1 vwCl (tm_ws g L M) H) (hS : va_S A s.heap H locs) (hM : Met l y ws { frames := fr, cells := 0, slots := 0, locals := lo } (tm_PC g A L M As) Qc 0 0 A) (cw : CallB R s args own index y bytes maxL cret ws { frames := fr, cells := 0, slots := 0, locals := lo } 0 0 n ∧ (Cond.static y).before args s = true) (hn : As.length = n) (hl : ls.size = nL) (hst : 2 * (F0 m pc ls (As.reverse ++ rest)).monitorRoom + (rest.map fun v => v.category).sum ≤ 8) (hdg : decode cc pc = .ok (.invokestatic index, 3)) (hf : cells + 0 ≤ R.cells ∧ slots + 0 ≤ R.slots) :
    va_Run p l e R s m args below meth c H locs cells slots 0 0 (F0 m pc ls (As.reverse ++ rest)) rest (Qc As.toArray) A :=
  va_runS S hM cw ⟨tm_Z.blind _, fun _ hU hW => ⟨rfl, tm_Z.at hP hK hG hS hU hW⟩⟩ rfl hn hl rfl hst hdg hf
theorem tm_callSN {host : String} {Qc : Array Value → State → Outcome → State → Prop} (S : CallFix p m c cc nL s args Ts own) (hK : va_K g.1 vwCl (tm_tys g) s) (hG : tm_S g A s s.heap) (hP : va_P g.1 vwCl (tm_ws g L M) H) (hS : va_S A s.heap H locs) (hM : Met l y ws { frames := fr, cells := 0, slots := 0, locals := lo } (tm_PC g A L M As) Qc 0 0 A) (cw : va_CN R s args own index y host bytes maxL cret ws { frames := fr, cells := 0, slots := 0, locals := lo } 0 0 n ∧ (Cond.static y).before args s = true ∧ True) (hn : As.length = n) (hl : ls.size = nL) (hst : 2 * (F0 m pc ls (As.reverse ++ rest)).monitorRoom + (rest.map fun v => v.category).sum ≤ 8) (hdg : decode cc pc = .ok (.invokestatic index, 3)) (hf : cells + 0 ≤ R.cells ∧ slots + 0 ≤ R.slots) :
    va_Run p l e R s m args below meth c H locs cells slots 0 0 (F0 m pc ls (As.reverse ++ rest)) rest (Qc As.toArray) A :=
  va_runSN S hM cw ⟨tm_Z.blind _, fun _ hU hW => ⟨rfl, tm_Z.at hP hK hG hS hU hW⟩⟩ rfl hn hl rfl hst hdg hf
theorem tm_callU {owner : String} {x : MethodName} {Qc : Array Value → State → Outcome → State → Prop} (S : CallFix p m c cc nL s args Ts own) (hK : va_K g.1 vwCl (tm_tys g) s) (hG : tm_S g A s s.heap) (hP : va_P g.1 vwCl (tm_ws g L M) H) (hS : va_S A s.heap H locs) (hM : Met l y ws { frames := fr, cells := 0, slots := 0, locals := lo } (tm_PC g A L M (.ref (g.2.2 + o) :: As)) Qc 0 0 A) (cw : va_CU R s args own C owner index x y bytes maxL cret ws { frames := fr, cells := 0, slots := 0, locals := lo } 0 0 n) (hr : ∃ cell : Cell, H[g.2.2 + o]? = some cell ∧ cell.vm.isStatics = false ∧ s.vm.findClass C = some cell.cls) (hn : As.length = n) (hl : ls.size = nL) (hst : 2 * (F0 m pc ls (As.reverse ++ .ref (g.2.2 + o) :: rest)).monitorRoom + (rest.map fun v => v.category).sum ≤ 8) (hdg : decode cc pc = .ok (.invokevirtual index, 3)) (hf : cells + 0 ≤ R.cells ∧ slots + 0 ≤ R.slots) :
    va_Run p l e R s m args below meth c H locs cells slots 0 0 (F0 m pc ls (As.reverse ++ .ref (g.2.2 + o) :: rest)) rest (Qc (Value.ref (g.2.2 + o) :: As).toArray) A :=
  va_runU S hM cw ⟨tm_Z.blind _, hr, fun _ hU hW => ⟨rfl, tm_Z.at hP hK hG hS hU hW⟩⟩ rfl hn hl rfl hst hdg hf
/-! ends -/
theorem tm_iret {R0 : Int32 × tm_M} {r : Int32} (C0 : tm_C p m c cc nL s args Ts own meth (some .int) g A L F) (h : (r, M) = R0) (hP : va_P g.1 vwCl (tm_ws g L M) H) (hS : va_S A s.heap H locs) (hdg : decode cc pc = .ok (.ireturn, 1)) : W p l e R s m args below meth c H locs cells slots (MQ below (tm_QI g A L R0) args s cells slots A) (F0 m pc ls [.int r]) := by
  obtain ⟨⟨hx, hb, -⟩, hr, hlk, hK, -, hG, -⟩ := C0
  exact W.iret (v := r) hx hb hr (fun t ht hW => ⟨⟨r, M, rfl, h, tm_Z.at hP hK hG hS ht hW⟩, hS.F ht⟩) hS.2.2 hdg hlk
theorem tm_zret {R0 : Int32 × tm_M} {r : Int32} (C0 : tm_C p m c cc nL s args Ts own meth (some .boolean) g A L F) (hB : tm_isB r) (h : (r, M) = R0) (hP : va_P g.1 vwCl (tm_ws g L M) H) (hS : va_S A s.heap H locs) (hdg : decode cc pc = .ok (.ireturn, 1)) : W p l e R s m args below meth c H locs cells slots (MQ below (tm_QI g A L R0) args s cells slots A) (F0 m pc ls [.int r]) := by
  obtain ⟨⟨hx, hb, -⟩, hr, hlk, hK, -, hG, -⟩ := C0
  exact W.zret (v := r) hx hb hr (tm_isB_narrow hB) (fun t ht hW => ⟨⟨r, M, rfl, h, tm_Z.at hP hK hG hS ht hW⟩, hS.F ht⟩) hS.2.2 hdg hlk
theorem tm_vret {M0 : tm_M} (C0 : tm_C p m c cc nL s args Ts own meth none g A L F) (h : M = M0) (hP : va_P g.1 vwCl (tm_ws g L M) H) (hS : va_S A s.heap H locs) (hdg : decode cc pc = .ok (.return_, 1)) : W p l e R s m args below meth c H locs cells slots (MQ below (tm_QV g A L M0) args s cells slots A) (F0 m pc ls []) := by
  obtain ⟨⟨hx, hb, -⟩, hr, hlk, hK, -, hG, -⟩ := C0
  exact W.vret hx hb hr (fun t ht hW => ⟨⟨M, rfl, h, tm_Z.at hP hK hG hS ht hW⟩, hS.F ht⟩) hS.2.2 hdg hlk
end TMR
/-- a contract out of its body's walk, for any method that no entry replaces -/
theorem tm_ofW {l : Launch} {y : MethodName} {ws ws' : List Cond} {rm : Room} {Pc : Array Value → State → Prop} {Qc : Array Value → State → Outcome → State → Prop} {mc ms : Nat} {free : Addr → Prop} {cc : ByteArray} {nL : Nat} {ret : Option FieldType} (hy : plainFor y = true) (hw : ws = Cond.code y cc nL ret :: ws')
    (kk : ∀ p e s m args below meth c s₁, BodyLoose p l y (headSpec ws rm) cc nL ret e s m args below meth c s₁ → c.maxLocals = nL → Pc args s → W p l e (headSpec ws rm).room s m args below meth c s.heap [] 0 0 (MQ below Qc args s mc ms free) (entryFrame m args nL)) : Met l y ws rm Pc Qc mc ms free := by
  refine MetFree.of_bodySF (code := cc) (maxLocals := nL) (ret := ret) hy (fun args s m h hn => ?_) (fun p e s m args below meth c s₁ B hml hP _ => ?_)
  · obtain ⟨meth, c, q1, q2, q3, q4, q5, q6, -⟩ := Cond.code_spec hn (atoms_spec (ws := ws) h _ (by rw [hw]; exact List.mem_cons_self))
    exact ⟨meth, c, q1, q2, q3, q4, q5, q6⟩
  · obtain ⟨t, a1, o, b1, b2, b3, b4⟩ := kk p e s m args below meth c s₁ B hml hP s₁ (by rw [B.state]; rfl) (Stand.of_body B)
    exact ⟨t, o, a1, b1, b2, b3, b4⟩
/-! a method's start -/
theorem tm_start {l : Launch} {y : MethodName} {cc : ByteArray} {nL fr lo : Nat} {ret : Option FieldType} {ws ws' : List Cond} {avs : List Value} {M : tm_M} {Qc : Array Value → State → Outcome → State → Prop} {g : tm_G} {A : Nat → Prop} {L : List Nat} {F : Nat → Prop} (hy : plainFor y = true) (hw : ws = Cond.code y cc nL ret :: ws') (hn : (lg_sl avs).length ≤ nL) (hD : ∀ M, va_D A (tm_ws g L M)) (hF : ∀ o, F o → o ∈ L)
    (kk : ∀ (p : Program) (e : Env) (s : State) (m : MethodId) (args : Array Value) (below : List Frame) (meth : Method) (c : Code) (ls : Array Slot), tm_C p m c cc nL s args ws y.cls meth ret g A L F → va_P g.1 vwCl (tm_ws g L M) s.heap → va_S A s.heap s.heap [] → lv_has ls nL (lv_args 0 avs) →
      W p l e { frames := fr, cells := 0, slots := 0, locals := lo } s m args below meth c s.heap [] 0 0 (MQ below Qc args s 0 0 A) (F0 m 0 ls [])) : Met l y ws { frames := fr, cells := 0, slots := 0, locals := lo } (tm_PC g A L M avs) Qc 0 0 A := by
  refine tm_ofW (cc := cc) (nL := nL) (ret := ret) hy hw ?_
  intro p e s m args below meth c s₁ B hml hv
  obtain ⟨rfl, hP, hK, hG⟩ := hv
  have hl := lv_entry avs (n := nL) hn
  rw [lg_entry_eq]
  exact kk p e s m _ below meth c _ ⟨⟨B.exec, B.bytes, hml, findClass_of_methodNamed B.named, atoms_spec (ws := ws) B.pre⟩, B.returns, B.notSynchronized, hK, hD, hG, hF⟩ hP va_S.rf hl
