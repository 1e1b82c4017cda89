/-! what the premises give of the classes and links -/
theorem ls_cls {s : State} {args : Array Value} (hts : ∀ w ∈ lw_tbl, w.before args s = true) {ci : Nat} {n : Nat} (hc : nn_cls vwCl ci) (hi : ∀ q : vw_C, vwCl[ci]? = some q → Jvm.Cond.instantiable q.1 n ∈ lw_tbl) : ∃ (cC : ClassId) (iS : Nat → Nat), ∀ q : vw_C, vwCl[ci]? = some q → u_Kn s q.1 q.2.1 q.2.2 cC iS := by
  obtain ⟨C, T, N, h1, h2, -, -⟩ := hc
  obtain ⟨cC, iS, h⟩ := u_known (C := C) (T := T) (N := N) (n := n) hts (fun w hw => (List.mem_filter.mp (h2 w hw)).1) (hts _ (hi _ h1))
  refine ⟨cC, iS, fun q hq => ?_⟩
  rw [h1] at hq
  cases hq
  exact h
theorem ls_arr {s : State} {args : Array Value} {ty : FieldType} (h : (Cond.arrayClass ty).before args s = true) (hn : ∀ C, ty ≠ .object C) : ∃ cA : ClassId, ArrOfT s cA ty ∧ va_RA s cA ty := by
  obtain ⟨cA, kA, comp, h1, h2, h3⟩ := Cond.arrayClass_spec h
  refine ⟨cA, fun n z => ⟨fun k h => (by cases h), kA, h2, comp, h3⟩, ?_⟩
  cases ty with
  | object C => exact absurd rfl (hn C)
  | _ => exact h1
theorem ls_K {s : State} {args : Array Value} (hts : ∀ w ∈ lw_tbl, w.before args s = true) : ∃ (D : va_G) (cy : Nat → ClassId), va_K D vwCl (ab_tys cy) s := by
  obtain ⟨c0, i0, h0⟩ := ls_cls hts (ci := 0) (n := 3) (nn_cls_all 0 (by decide)) (fun q hq => by cases hq; decide +kernel)
  obtain ⟨c1, i1, h1⟩ := ls_cls hts (ci := 1) (n := 4) (nn_cls_all 1 (by decide)) (fun q hq => by cases hq; decide +kernel)
  obtain ⟨c2, i2, h2⟩ := ls_cls hts (ci := 2) (n := 8) (nn_cls_all 2 (by decide)) (fun q hq => by cases hq; decide +kernel)
  obtain ⟨c3, i3, h3⟩ := ls_cls hts (ci := 3) (n := 2) (nn_cls_all 3 (by decide)) (fun q hq => by cases hq; decide +kernel)
  obtain ⟨c4, i4, h4⟩ := ls_cls hts (ci := 4) (n := 7) (nn_cls_all 4 (by decide)) (fun q hq => by cases hq; decide +kernel)
  obtain ⟨c5, i5, h5⟩ := ls_cls hts (ci := 5) (n := 5) (nn_cls_all 5 (by decide)) (fun q hq => by cases hq; decide +kernel)
  obtain ⟨c6, i6, h6⟩ := ls_cls hts (ci := 6) (n := 17) (nn_cls_all 6 (by decide)) (fun q hq => by cases hq; decide +kernel)
  obtain ⟨c7, i7, h7⟩ := ls_cls hts (ci := 7) (n := 6) (nn_cls_all 7 (by decide)) (fun q hq => by cases hq; decide +kernel)
  obtain ⟨c8, i8, h8⟩ := ls_cls hts (ci := 8) (n := 11) (nn_cls_all 8 (by decide)) (fun q hq => by cases hq; decide +kernel)
  obtain ⟨c9, i9, h9⟩ := ls_cls hts (ci := 9) (n := 2) (nn_cls_all 9 (by decide)) (fun q hq => by cases hq; decide +kernel)
  obtain ⟨c10, i10, h10⟩ := ls_cls hts (ci := 10) (n := 18) (nn_cls_all 10 (by decide)) (fun q hq => by cases hq; decide +kernel)
  obtain ⟨c11, i11, h11⟩ := ls_cls hts (ci := 11) (n := 63) (nn_cls_all 11 (by decide)) (fun q hq => by cases hq; decide +kernel)
  obtain ⟨a0, b0⟩ := ls_arr (ty := .int) (hts (.arrayClass .int) (by decide +kernel)) (fun C h => by cases h)
  obtain ⟨a1, b1⟩ := ls_arr (ty := .long) (hts (.arrayClass .long) (by decide +kernel)) (fun C h => by cases h)
  obtain ⟨a2, b2⟩ := ls_arr (ty := .byte) (hts (.arrayClass .byte) (by decide +kernel)) (fun C h => by cases h)
  obtain ⟨a3, b3⟩ := ls_arr (ty := .boolean) (hts (.arrayClass .boolean) (by decide +kernel)) (fun C h => by cases h)
  refine ⟨(fun k => match k with | 0 => c0 | 1 => c1 | 2 => c2 | 3 => c3 | 4 => c4 | 5 => c5 | 6 => c6 | 7 => c7 | 8 => c8 | 9 => c9 | 10 => c10 | _ => c11, fun k => match k with | 0 => i0 | 1 => i1 | 2 => i2 | 3 => i3 | 4 => i4 | 5 => i5 | 6 => i6 | 7 => i7 | 8 => i8 | 9 => i9 | 10 => i10 | _ => i11), fun k => match k with | 0 => a0 | 1 => a1 | 2 => a2 | _ => a3, ?_, ?_⟩
  · intro ci q hq
    have hlt : ci < 12 := (List.getElem?_eq_some_iff.mp hq).1
    match ci, hlt, hq with
    | 0, _, hq => exact h0 q hq
    | 1, _, hq => exact h1 q hq
    | 2, _, hq => exact h2 q hq
    | 3, _, hq => exact h3 q hq
    | 4, _, hq => exact h4 q hq
    | 5, _, hq => exact h5 q hq
    | 6, _, hq => exact h6 q hq
    | 7, _, hq => exact h7 q hq
    | 8, _, hq => exact h8 q hq
    | 9, _, hq => exact h9 q hq
    | 10, _, hq => exact h10 q hq
    | 11, _, hq => exact h11 q hq
  · intro k q hq
    have hlt : k < 4 := (List.getElem?_eq_some_iff.mp hq).1
    match k, hlt, hq with
    | 0, _, hq => cases hq; exact b0
    | 1, _, hq => cases hq; exact b1
    | 2, _, hq => cases hq; exact b2
    | 3, _, hq => cases hq; exact b3
theorem ls_NW : ∀ q ∈ nn_NW, Jvm.Cond.methodLinkNest q.1 q.2.1 q.2.2.1 q.2.2.2 ∈ lw_tbl := by decide +kernel
theorem ls_N {s : State} {args : Array Value} (hts : ∀ w ∈ lw_tbl, w.before args s = true) : ab_okN nn_NW s := fun q hq => va_Nw.of rfl (hts _ (ls_NW q hq))
theorem ls_bad : ∀ w ∈ nx_bad, w ∈ lw_tbl := fun w hw => nx_wds_in w (List.mem_filter.mp hw).1
/-- the two static fields of Throwable, the words that no contract carries -/
theorem ls_Z {s : State} {args : Array Value} (hts : ∀ w ∈ lw_tbl, w.before args s = true) (hgv : (Jvm.Cond.and given_1 narrow_1).before args s = true) : nx_Z (fun q : Nat => s.heap.size ≤ q) s := by
  have hs := flat_of_before _ hgv
  refine ⟨vx_Zqof (hts _ (by decide +kernel)) (hts _ (by decide +kernel)) (hs (Cond.isRef (.static Bundle.tN "UNASSIGNED_STACK" Bundle.steD)) (by decide +kernel)) (fun a ha h => Nat.not_le.mpr ha h), vx_Zqof (hts _ (by decide +kernel)) (hts _ (by decide +kernel)) (hs (Cond.isRef (.static Bundle.tN "SUPPRESSED_SENTINEL" Bundle.listD)) (by decide +kernel)) (fun a ha h => Nat.not_le.mpr ha h), fun w hw => nx_alk_ok (Vm.Alike.refl s.vm) (nx_bad_alk w hw) (hts w (ls_bad w hw))⟩
