set_option maxHeartbeats 8000000 in
set_option maxRecDepth 100000 in
/-- THE LAW, from its entry -/
theorem whole_start {p : Program} {e : Env} {s : State} {m : MethodId} {below : List Frame} {meth : Method} {c : Code} (l : Launch) (hflags : l.flags = flags0) {b L : Nat} {xs : Nat → Int32} (hL : L ≤ 3584) (C0 : lw_At p s m meth c b L xs) : W p l e room_1 s m #[Value.ref b] below meth c s.heap [] 0 0 (lw_Z below #[Value.ref b] s) (entryFrame m ([Value.ref b] : List Value).toArray 8) := by
  obtain ⟨hx, hb, hr, hml, hown, hts, hX, hbl, hlocks, hgv⟩ := id C0
  obtain ⟨D, cy, hK⟩ := ls_K hts
  have hN := ls_N hts
  have hZ := ls_Z hts hgv
  obtain ⟨wr, cr, av, hcr, hCB, hY⟩ := ls_deep hts hgv b
  have hown2 : s.vm.findClass "NameNotesLaw" = some m.cls := hown
  have hTT : ∀ w ∈ nn_TT, w ∈ lw_tbl := fun w hw => (List.mem_filter.mp hw).1
  have htr : l.stackTraces = false := by
    unfold Launch.stackTraces
    rw [hflags]
    decide
  have hl := lv_entry ([.ref b]) (n := 8) (Nat.le_of_ble_eq_true rfl)
  rw [lg_entry_eq]
  generalize (lg_sl ([.ref b]) ++ List.replicate (8 - (lg_sl ([.ref b])).length) Slot.unset).toArray = ls at hl ⊢
  have hl : lv_has ls 8 [(0, .ref b)] := hl
  have hG0 : ct_G cy D s.heap.size 0 s.heap [] s.heap [] := ⟨fun k q h => absurd (ct_W_at h).1 (Nat.not_lt_zero k), rfl, va_S.rf⟩
  refine ct_new (b := s.heap.size) (x := 0) (ci := 10) (fs := ct_kNotes.2.2.2.2.1) hx hb hts hTT hown2 hK (show vwCl[10]? = some (RX11, TX11, 18) from rfl) (nn_at_ok (i := 1025) (by decide +kernel)) (nn_at_ok (i := 1026) (by decide +kernel)) (nn_at_ok (i := 1001) (by decide +kernel)) (by decide +kernel) (Nat.le_of_ble_eq_true rfl) (Nat.le_of_ble_eq_true rfl) (show decode code 0 = .ok (.new 8, 3) by decide +kernel) hG0 (fun H1 hG1 => ?_)
  have hG1 : ct_G cy D s.heap.size 0 s.heap st_1 H1 [] := hG1
  refine lv_dup hx hb (show decode code 3 = .ok (.dup, 1) by decide +kernel) rfl ?_
  refine W.widen (k := 1) (n := 18) (Nat.le_refl _) (Nat.le_refl _) ?_
  show W p l e room_1 s m #[Value.ref b] below meth c H1 [] 1 18 (lw_Z below #[Value.ref b] s) (F0 m 4 ls (cond false [Value.ref 0] [] ++ Value.ref (s.heap.size + 0) :: [Value.ref (s.heap.size + 0)]))
  refine ct_call (b := s.heap.size) (x := 0) (x' := 0) (k := 0) (a := (2, 0, 0)) hx hb hml hl.1 hts hTT hown2 hK hN (ct_hNotes l cy D) (show 0 + 1 = st_1.length from rfl) rfl (by decide +kernel) rfl (nn_at_ok (i := 1029) (by decide +kernel)) (nn_at_ok (i := 1001) (by decide +kernel)) ⟨by decide +kernel, by decide +kernel⟩ (by decide +kernel) rfl (nn_at_ok (i := 1028) (by decide +kernel)) (Or.inl (nn_at_ok (i := 1027) (by decide +kernel))) ⟨Nat.le_of_ble_eq_true rfl, Nat.le_of_ble_eq_true rfl⟩ ⟨Nat.le_of_ble_eq_true rfl, Nat.le_of_ble_eq_true rfl⟩ (Nat.le_of_ble_eq_true rfl) (show decode code 4 = .ok (.invokespecial 42, 3) by decide +kernel) hG1 (fun H2 locs2 hG2 => ?_)
  have hG2 : ct_G cy D s.heap.size 0 s.heap st_2 H2 locs2 := hG2
  refine W.widen (k := 93) (n := 5108) (Nat.le_of_ble_eq_true rfl) (Nat.le_of_ble_eq_true rfl) ?_
  refine lv_astore_n (lv' := [(1, .ref (s.heap.size + 0)), (0, .ref b)]) hx hb (show decode code 7 = .ok (.astore_n 1, 1) by decide +kernel) rfl hl (by decide) rfl (fun ls hl => ?_)
  refine ct_new (b := s.heap.size) (x := 0) (ci := 11) (fs := ct_kModel.2.2.2.2.1) hx hb hts hTT hown2 hK (show vwCl[11]? = some (RX12, TX12, 63) from rfl) (nn_at_ok (i := 7007) (by decide +kernel)) (nn_at_ok (i := 7008) (by decide +kernel)) (nn_at_ok (i := 1012) (by decide +kernel)) (by decide +kernel) (Nat.le_of_ble_eq_true rfl) (Nat.le_of_ble_eq_true rfl) (show decode code 8 = .ok (.new 43, 3) by decide +kernel) hG2 (fun H3 hG3 => ?_)
  have hG3 : ct_G cy D s.heap.size 0 s.heap st_3 H3 locs2 := hG3
  rw [st_len2]
  refine lv_dup hx hb (show decode code 11 = .ok (.dup, 1) by decide +kernel) rfl ?_
  refine W.widen (k := 94) (n := 5171) (Nat.le_of_ble_eq_true rfl) (Nat.le_of_ble_eq_true rfl) ?_
  show W p l e room_1 s m #[Value.ref b] below meth c H3 locs2 94 5171 (lw_Z below #[Value.ref b] s) (F0 m 12 ls (cond false [Value.ref 0] [] ++ Value.ref (s.heap.size + 93) :: [Value.ref (s.heap.size + 93)]))
  refine ct_call (b := s.heap.size) (x := 0) (x' := 0) (k := 93) (a := (2, 0, 0)) hx hb hml hl.1 hts hTT hown2 hK hN (ct_hModel l cy D) st_len3.symm st_cell3 (by decide +kernel) rfl (nn_at_ok (i := 7011) (by decide +kernel)) (nn_at_ok (i := 1012) (by decide +kernel)) ⟨by decide +kernel, by decide +kernel⟩ (by decide +kernel) rfl (nn_at_ok (i := 7010) (by decide +kernel)) (Or.inl (nn_at_ok (i := 7009) (by decide +kernel))) ⟨Nat.le_of_ble_eq_true rfl, Nat.le_of_ble_eq_true rfl⟩ ⟨Nat.le_of_ble_eq_true rfl, Nat.le_of_ble_eq_true rfl⟩ (Nat.le_of_ble_eq_true rfl) (show decode code 12 = .ok (.invokespecial 45, 3) by decide +kernel) hG3 (fun H4 locs4 hG4 => ?_)
  have hG4 : ct_G cy D s.heap.size 0 s.heap st_4 H4 locs4 := hG4
  refine W.widen (k := 122) (n := 8885) (Nat.le_of_ble_eq_true rfl) (Nat.le_of_ble_eq_true rfl) ?_
  refine lv_astore_n (lv' := [(2, .ref (s.heap.size + 93)), (1, .ref (s.heap.size + 0)), (0, .ref b)]) hx hb (show decode code 15 = .ok (.astore_n 2, 1) by decide +kernel) rfl hl (by decide) rfl (fun ls hl => ?_)
  refine lv_iconst (v := Int32.ofInt 1) hx hb (show decode code 16 = .ok (.iconst 1, 1) by decide +kernel) rfl ?_
  refine ct_newa (b := s.heap.size) (x := 0) (t := 1) (z := 1) hx hb hts hTT hK (by decide) (nn_at_ok (i := 1116) (by decide +kernel)) (by decide) (by decide) (Nat.le_of_ble_eq_true rfl) (Nat.le_of_ble_eq_true rfl) (show decode code 17 = .ok (.newarray .long, 2) by decide +kernel) hG4 (fun H5 hG5 => ?_)
  have hG5 : ct_G cy D s.heap.size 0 s.heap st_5 H5 locs4 := hG5
  rw [st_len4]
  refine W.widen (k := 123) (n := 8886) (Nat.le_of_ble_eq_true rfl) (Nat.le_of_ble_eq_true rfl) ?_
  refine lv_astore_n (lv' := [(3, .ref (s.heap.size + 122)), (2, .ref (s.heap.size + 93)), (1, .ref (s.heap.size + 0)), (0, .ref b)]) hx hb (show decode code 19 = .ok (.astore_n 3, 1) by decide +kernel) rfl hl (by decide) rfl (fun ls hl => ?_)
  refine lv_iconst (v := Int32.ofInt (0 + 0)) hx hb (show decode code 20 = .ok (.iconst 0, 1) by decide +kernel) rfl ?_
  refine lv_istore (lv' := [(4, .int (Int32.ofInt (0 + 0))), (3, .ref (s.heap.size + 122)), (2, .ref (s.heap.size + 93)), (1, .ref (s.heap.size + 0)), (0, .ref b)]) hx hb (show decode code 21 = .ok (.istore 4, 2) by decide +kernel) hl (by decide) rfl (fun ls hl => ?_)
  have hinj : nn_inj (fun i : Nat => s.heap.size + i) := fun i j _ _ h => Nat.add_left_cancel h
  have hL9 : (L : Int) ≤ 3584 := by omega
  have hP9 : va_P D vwCl (ab_WD cy (fun i => s.heap.size + i) wr nn_sh (s9 xs)) H5 := by
    rw [← st_W (x := 0)]
    exact hG5.1
  have e_1_1 : s9 xs 1 1 = 0 := by rw [s9_row (by decide)]; decide +kernel
  have e_93_2 : s9 xs 93 2 = 0 := by rw [s9_row (by decide)]; decide +kernel
  have e_93_23 : s9 xs 93 23 = 0 := by rw [s9_row (by decide)]; decide +kernel
  have e_130_1 : s9 xs 130 1 = 0 := by rw [s9_row (by decide)]; decide +kernel
  have e_130_2 : s9 xs 130 2 = 0 := by rw [s9_row (by decide)]; decide +kernel
  have e_93_22 : s9 xs 93 22 = 0 := by rw [s9_row (by decide)]; decide +kernel
  have e_95_0 : s9 xs 95 0 = 0 := by rw [s9_row (by decide)]; decide +kernel
  have e_95_1 : s9 xs 95 1 = 0 := by rw [s9_row (by decide)]; decide +kernel
  have e_95_2 : s9 xs 95 2 = 0 := by rw [s9_row (by decide)]; decide +kernel
  have e_95_3 : s9 xs 95 3 = 0 := by rw [s9_row (by decide)]; decide +kernel
  refine lw_turns (l := l) htr C0 (cy := cy) (ad := fun i => s.heap.size + i) (wr := wr) (cr := cr) (av := av) (D := D) hinj hcr (fun k _ => Nat.le_add_right _ _) hK hN (hCB _ _) hZ hY (npl_held l cy _ wr cr av D hinj) 3585 123 8886 (fun i => cond (i.beq 1) (L : Int) 0) (s9 xs) H5 locs4 ls [] (show (3584 : Int) - 0 < 3585 by decide) (Nat.le_of_ble_eq_true rfl) (Nat.le_of_ble_eq_true rfl) rfl (fun j _ => rfl) (rx_s9 xs) ⟨⟨?_, ?_, rfl, (show 0 < 10 by decide), ?_, s9_R xs, s9_okC2 xs, fun _ _ _ => rfl⟩, fun _ _ => rfl, (show 10 ≤ 10 by decide), ⟨?_, ?_⟩, ⟨rfl, fun a h => absurd h List.not_mem_nil⟩, hP9, hG5.2.2⟩
  · intro i hi
    have hi : i < 10 := hi
    match i, hi with
    | 0, _ => exact ⟨show (0 : Int) ≤ 0 by decide, show (0 : Int) ≤ 0 by decide⟩
    | 1, _ => exact ⟨show (0 : Int) ≤ (L : Int) by omega, hL9⟩
    | 2, _ => exact ⟨show (0 : Int) ≤ 0 by decide, show (0 : Int) ≤ 3584 by decide⟩
    | 3, _ => exact ⟨show (0 : Int) ≤ 0 by decide, show (0 : Int) ≤ 940 by decide⟩
    | 4, _ => exact ⟨show (0 : Int) ≤ 0 by decide, show (0 : Int) ≤ 3584 by decide⟩
    | 5, _ => exact ⟨show (0 : Int) ≤ 0 by decide, show (0 : Int) ≤ 1 by decide⟩
    | 6, _ => exact ⟨show (0 : Int) ≤ 0 by decide, show (0 : Int) ≤ 9 by decide⟩
    | 7, _ => exact ⟨show (0 : Int) ≤ 0 by decide, show (0 : Int) ≤ 6 by decide⟩
    | 8, _ => exact ⟨show (0 : Int) ≤ 0 by decide, show (0 : Int) ≤ 5 by decide⟩
    | 9, _ => exact ⟨show (0 : Int) ≤ 0 by decide, show (0 : Int) ≤ 9 by decide⟩
  · show ∀ f ∈ [((4, 2, 0) : Nat × Nat × Int)], _
    exact List.forall_mem_cons.mpr ⟨⟨(show 4 < 10 by decide), (show 2 < 10 by decide), (show (0 : Int) - 0 ≤ 0 by decide)⟩, fun _ h => absurd h List.not_mem_nil⟩
  · show ∀ d ∈ ([((1, 1), (3, 0)), ((93, 2), (3, 0)), ((93, 23), (4, 0)), ((130, 1), (0, 0)), ((130, 2), (0, 0)), ((93, 22), (5, 0)), ((95, 0), (6, 0)), ((95, 1), (7, 0)), ((95, 2), (8, 0)), ((95, 3), (9, 0))] : ab_DL), _
    have key : ∀ {k j i : Nat}, j.ble 1999999 = true → i < 10 → i.beq 1 = false → s9 xs k j = 0 → (i < 10 ∧ ab_kn 10 j ∧ s9 xs k (ab_kv (fun i => cond (i.beq 1) (L : Int) 0) j) = (cond (i.beq 1) (L : Int) 0) + 0) := by
      intro k j i h1 h2 h3 h4
      refine ⟨h2, Or.inl h1, ?_⟩
      rw [ab_kv_pl h1, h4, h3]
      rfl
    exact List.forall_mem_cons.mpr ⟨key rfl (by decide) rfl e_1_1, List.forall_mem_cons.mpr ⟨key rfl (by decide) rfl e_93_2, List.forall_mem_cons.mpr ⟨key rfl (by decide) rfl e_93_23, List.forall_mem_cons.mpr ⟨key rfl (by decide) rfl e_130_1, List.forall_mem_cons.mpr ⟨key rfl (by decide) rfl e_130_2, List.forall_mem_cons.mpr ⟨key rfl (by decide) rfl e_93_22, List.forall_mem_cons.mpr ⟨key rfl (by decide) rfl e_95_0, List.forall_mem_cons.mpr ⟨key rfl (by decide) rfl e_95_1, List.forall_mem_cons.mpr ⟨key rfl (by decide) rfl e_95_2, List.forall_mem_cons.mpr ⟨key rfl (by decide) rfl e_95_3, fun _ h => absurd h List.not_mem_nil⟩⟩⟩⟩⟩⟩⟩⟩⟩⟩
  · show lv_has ls 8 [(0, .ref (cr 999)), (1, .ref (s.heap.size + 0)), (2, .ref (s.heap.size + 93)), (3, .ref (s.heap.size + 122)), (4, .int (Int32.ofInt (0 + 0)))]
    rw [hcr]
    exact lv_sub hl [4, 3, 2, 1, 0] rfl
  · show ∀ q ∈ ([(0, (5, 999, 0)), (1, (2, 0, 0)), (2, (2, 93, 0)), (3, (2, 122, 0)), (4, (0, 2, 0))] : ab_LS), ab_sy 10 q.2
    exact List.forall_mem_cons.mpr ⟨trivial, List.forall_mem_cons.mpr ⟨trivial, List.forall_mem_cons.mpr ⟨trivial, List.forall_mem_cons.mpr ⟨trivial, List.forall_mem_cons.mpr ⟨(show 2 < 10 by decide), fun _ h => absurd h List.not_mem_nil⟩⟩⟩⟩⟩
