/-! MAKING: a year -/
/-- the memory at the start, as far as the class goes -/
def cz_M : tm_M := fun o => if tm_shp o = 0 then (fun k => if k = 0 then 1 else if k = 1 then 1 else if k = 10 then -1 else 0) else if tm_shp o = 5 then (fun k => if k = 0 then 5 else if k = 1 then 40 else if k = 2 then 2 else if k = 3 then 12 else if k = 4 then 30 else 6) else fun _ => 0
theorem cz_M0 {o : Nat} (h : tm_shp o = 0) : cz_M o = fun k => if k = 0 then 1 else if k = 1 then 1 else if k = 10 then -1 else 0 := if_pos h
theorem cz_M5 {o : Nat} (h : tm_shp o = 5) : cz_M o = fun k => if k = 0 then 5 else if k = 1 then 40 else if k = 2 then 2 else if k = 3 then 12 else if k = 4 then 30 else 6 := by
  rw [cz_M, if_neg (by rw [h]; decide), if_pos h]
theorem cz_Mz {o : Nat} (h : tm_shp o ≠ 0) (h5 : tm_shp o ≠ 5) : cz_M o = fun _ => 0 := by
  rw [cz_M, if_neg h, if_neg h5]
theorem cz_nge : ∀ n : Nat, n < 9 → ∀ i : Nat, i < n → ¬ nI n ≤ nI i := by decide
theorem cz_nle : ∀ n : Nat, n < 9 → nI n ≤ nI n := by decide
theorem cz_nin : ∀ i : Nat, i < 9 → nI i + Int32.ofInt 1 = nI (i + 1) := by decide
theorem cz_ncl : ∀ i : Nat, i < 9 → (nI i).toNatClampNeg = i := by decide
theorem cz_nvi : ∀ n : Nat, n < 9 → ∀ i : Nat, i < n → tm_vin (nI i) n = true := by decide
/-- an array of references, filled so far -/
def cz_ra (f : Nat → Nat) (i : Nat) : Nat → Option Nat := fun j => if j < i then some (f j) else none
theorem cz_ra0 (f : Nat → Nat) : (fun _ => none) = cz_ra f 0 := by funext j; rw [cz_ra, if_neg (Nat.not_lt_zero j)]
theorem cz_raS (f : Nat → Nat) (i : Nat) : va_up (cz_ra f i) i (some (f i)) = cz_ra f (i + 1) := by
  funext j
  unfold va_up cz_ra
  by_cases h : j = i
  · rw [if_pos h, if_pos (by omega), h]
  · by_cases h2 : j < i
    · rw [if_neg h, if_pos h2, if_pos (by omega)]
    · rw [if_neg h, if_neg h2, if_neg (by omega)]
/-- a full array's cell does not show what lies beyond its end -/
theorem cz_tot {g : tm_G} {A : Nat → Prop} {X Y : va_W} {a h n : Nat} {H0 H : Heap} {locs : List Loc} {cA : ClassId} {f : Nat → Nat} (hH : cz_H g A (X ++ ((a, .inl (cA, n, .inr (.inr (.inr (.inr (cz_ra f n)))))) :: Y)) h H0 H locs) : cz_H g A (X ++ ((a, .inl (cA, n, .inr (.inr (.inr (.inr (fun j => some (f j))))))) :: Y)) h H0 H locs := by
  obtain ⟨hz, hP, hD, hS⟩ := hH
  have hix : (X ++ ((a, (.inl (cA, n, .inr (.inr (.inr (.inr (cz_ra f n))))) : va_E)) :: Y))[X.length]? = some (a, .inl (cA, n, .inr (.inr (.inr (.inr (cz_ra f n)))))) := by
    rw [List.getElem?_append_right (Nat.le_refl _), Nat.sub_self]; rfl
  have hsx : (X ++ ((a, (.inl (cA, n, .inr (.inr (.inr (.inr (cz_ra f n))))) : va_E)) :: Y)).set X.length (a, .inl (cA, n, .inr (.inr (.inr (.inr (fun j => some (f j))))))) = X ++ ((a, .inl (cA, n, .inr (.inr (.inr (.inr (fun j => some (f j))))))) :: Y) := by
    rw [List.set_append_right _ _ (Nat.le_refl _), Nat.sub_self]; rfl
  refine ⟨hz, ?_, ?_, hS⟩
  · rw [← hsx]
    refine hP.set hD hix ?_ (fun _ _ => rfl)
    have h1 := hP _ _ hix
    show H[a]? = some (vp_cell _ _)
    have h2 : H[a]? = some (vp_cell cA (n, .inr (.inr (.inr (.inr (cz_ra f n)))))) := h1
    rw [h2, vp_cell_q, vp_cell_q]
    congr 1
    unfold arrV
    congr 1
    apply Array.ext
    · simp
    · intro i h3 h4
      simp at h3
      simp [cz_ra, h3]
  · rw [← hsx]
    exact hD.set hix
theorem cz_ap (g : tm_G) (a n k : Nat) (M : tm_M) : tm_ws g (List.range' a n) M ++ tm_ws g (List.range' (a + n) k) M = tm_ws g (List.range' a (n + k)) M := by
  unfold tm_ws
  rw [← List.map_append, List.range'_append_1]
abbrev cz_isY (o : Nat) : Prop := (∀ k, k < 9 → tm_shp (o + k) = tm_yshp k) ∧ o + 2 ≠ 7 ∧ o + 2 ≠ 29 ∧ o + 2 ≠ 49
/-- a life as it is made -/
theorem cz_lf {g : tm_G} {o : Nat} (h : tm_shp o = 0) : (.inr (0, [.ref (g.2.2 + 1), .int 1, .int 0, .int 0, .int 0, .int 0, .int 0, .int 0, .int 0, .int 0, .int (-1), .int 0]) : va_E) = tm_mk g o (tm_shp o) (cz_M o) := by
  rw [cz_M0 h, h]; rfl
theorem cz_tr {g : tm_G} {o : Nat} (h : tm_shp o = 5) : (.inr (5, [.int 5, .int 40, .int 2, .int 12, .int 30, .int 6]) : va_E) = tm_mk g o (tm_shp o) (cz_M o) := by
  rw [cz_M5 h, h]; rfl
theorem cz_yr {g : tm_G} {o : Nat} (h : tm_shp o = 7) : (.inr (7, [.ref (g.2.2 + (o + 1)), .ref (g.2.2 + (o + 2)), .int 0, .int 0]) : va_E) = tm_mk g o (tm_shp o) (cz_M o) := by
  rw [cz_Mz (by rw [h]; decide) (by rw [h]; decide), h]; rfl
/-- lives on end -/
def cz_ls (g : tm_G) (o n : Nat) : va_W := tm_ws g (List.range' o n) cz_M
theorem cz_lsS (g : tm_G) (o n : Nat) (h : tm_shp (o + n) = 0) : cz_ls g o (n + 1) = cz_ls g o n ++ [(g.2.2 + (o + n), .inr (0, [.ref (g.2.2 + 1), .int 1, .int 0, .int 0, .int 0, .int 0, .int 0, .int 0, .int 0, .int 0, .int (-1), .int 0]))] := by
  unfold cz_ls
  rw [← cz_ap, cz_lf h]
  rfl
theorem cz_last {X Y : va_W} {x : Nat × va_E} : (X ++ (Y ++ [x]))[X.length + Y.length]? = some x := by
  rw [← List.append_assoc, ← List.length_append, List.getElem?_concat_length]
section CZY
variable {p : Program} {l : Launch} {e : Env} {R : Room} {s : State} {m : MethodId} {args : Array Value} {below : List Frame} {meth : Method} {c : Code} {H : Heap} {locs : List Loc} {cells slots : Nat} {Q : State → Prop}
variable {cc : ByteArray} {pc : Nat} {ls : Array Slot} {rest : List Value} {g : tm_G} {A : Nat → Prop} {X Y Y' : va_W} {h : Nat} {own : String} {Ts : List Cond} {nL : Nat} {y : MethodName} {a : Nat}
theorem cz_get (C0 : cz_C p m c cc nL s args Ts own meth y g A) {C : String} {T : u_T} {N index : Nat} (hin : ∀ w ∈ u_ws C T N, w ∈ Ts) (hH : cz_H g A (X ++ Y) h s.heap H locs) (i : Nat) {ci : Nat} {fs : List Value} (he : Y[i]? = some (a, .inr (ci, fs))) (hc : vwCl[ci]? = some (C, T, N)) (k : Nat) (hk : k < N) (hlink : Cond.fieldLink own index (T k).1 (T k).2.1 (T k).2.2.1 ∈ Ts) {v : Value} (hv : fs[k]? = some v) (hdg : decode cc pc = .ok (.getfield index, 3))
    (kk : W p l e R s m args below meth c H locs cells slots Q (F0 m (pc + 3) ls (v :: rest))) : W p l e R s m args below meth c H locs cells slots Q (F0 m pc ls (.ref a :: rest)) := by
  obtain ⟨⟨hexec, hb, -, hown1, hts⟩, -, -, hK, -⟩ := id C0
  exact va_get hexec hb hts hin hown1 hK hH.2.1 _ (cz_ix (X := X) he) hc k hk (hts _ hlink) (fun _ h => h) hv hdg kk
end CZY
