section
/-! the cells behind the constructors are the world at its start -/
def s9_v (k j : Nat) (f : Nat × Nat) (v : ct_V) : Bool :=
  (v.1.beq 0 && f.1.beq 0 && decide (v.2.2 = s9_i k j)) || (v.1.beq 1 && f.1.beq 2 && v.2.1.beq f.2) || (v.1.beq 3 && f.1.beq 3) || (v.1.beq 3 && f.1.beq 4 && decide (s9_i k j = -1)) || (v.1.beq 4 && f.1.beq 1 && decide (v.2.2 = s9_i k j))
theorem s9_v_ok {k j b x : Nat} {wr : Nat → Nat} {f : Nat × Nat} {v : ct_V} (h : s9_v k j f v = true) : ct_v b x v = ab_fv (fun i => b + i) wr f (s9_i k j) := by
  obtain ⟨t, i, z⟩ := v
  obtain ⟨u, n⟩ := f
  unfold s9_v at h
  rw [Bool.or_eq_true, Bool.or_eq_true, Bool.or_eq_true, Bool.or_eq_true] at h
  rcases h with (((h | h) | h) | h) | h
  · rw [Bool.and_eq_true, Bool.and_eq_true, decide_eq_true_eq] at h
    have e1 : t = 0 := Nat.eq_of_beq_eq_true h.1.1
    have e2 : u = 0 := Nat.eq_of_beq_eq_true h.1.2
    have e3 : z = s9_i k j := h.2
    subst e1; subst e2; subst e3
    rfl
  · rw [Bool.and_eq_true, Bool.and_eq_true] at h
    have e1 : t = 1 := Nat.eq_of_beq_eq_true h.1.1
    have e2 : u = 2 := Nat.eq_of_beq_eq_true h.1.2
    have e3 : i = n := Nat.eq_of_beq_eq_true h.2
    subst e1; subst e2; subst e3
    rfl
  · rw [Bool.and_eq_true] at h
    have e1 : t = 3 := Nat.eq_of_beq_eq_true h.1
    have e2 : u = 3 := Nat.eq_of_beq_eq_true h.2
    subst e1; subst e2
    rfl
  · rw [Bool.and_eq_true, Bool.and_eq_true, decide_eq_true_eq] at h
    have e1 : t = 3 := Nat.eq_of_beq_eq_true h.1.1
    have e2 : u = 4 := Nat.eq_of_beq_eq_true h.1.2
    subst e1; subst e2
    rw [h.2]
    rfl
  · rw [Bool.and_eq_true, Bool.and_eq_true, decide_eq_true_eq] at h
    have e1 : t = 4 := Nat.eq_of_beq_eq_true h.1.1
    have e2 : u = 1 := Nat.eq_of_beq_eq_true h.1.2
    have e3 : z = s9_i k j := h.2
    subst e1; subst e2; subst e3
    rfl
def s9_fs (k : Nat) : Nat → List (Nat × Nat) → List ct_V → Bool
  | _, [], [] => true
  | j, f :: fs, v :: vs => s9_v k j f v && s9_fs k (j + 1) fs vs
  | _, _, _ => false
theorem s9_fs_ok {k b x : Nat} {wr : Nat → Nat} : ∀ (fs : List (Nat × Nat)) (vs : List ct_V) (j : Nat), s9_fs k j fs vs = true → vs.map (ct_v b x) = fs.mapIdx (fun i f => ab_fv (fun i => b + i) wr f (s9_i k (i + j))) := by
  intro fs
  induction fs with
  | nil =>
    intro vs j h
    cases vs with
    | nil => rfl
    | cons v vs => cases h
  | cons f fs ih =>
    intro vs j h
    cases vs with
    | nil => cases h
    | cons v vs =>
      unfold s9_fs at h
      rw [Bool.and_eq_true] at h
      rw [List.map_cons, List.mapIdx_cons, s9_v_ok (b := b) (x := x) (wr := wr) h.1, ih vs (j + 1) h.2, Nat.zero_add]
      congr 2
      funext i f
      rw [Nat.add_assoc, Nat.add_comm 1 j]
theorem s9_f_out : ∀ {l : List (Nat × Int)} {j : Nat}, (∀ q ∈ l, q.1 < j) → ct_f l j = 0 := by
  intro l
  induction l with
  | nil => intro j _; rfl
  | cons q l ih =>
    intro j h
    unfold ct_f
    have h1 := h q List.mem_cons_self
    rw [show j.beq q.1 = false from Bool.eq_false_iff.mpr (fun z => by have := Nat.eq_of_beq_eq_true z; omega)]
    exact ih (fun r hr => h r (List.mem_cons_of_mem _ hr))
def s9_ar (k : Nat) (l : List (Nat × Int)) : Bool := (List.range 10).all (fun j => decide (ct_f l j = s9_i k j)) && l.all (fun q => (q.1 + 1).ble 10) && s9_x.all (fun q => !(q.1.1.beq k) || (q.1.2 + 1).ble 10)
theorem s9_ar_ok {k : Nat} {l : List (Nat × Int)} (h : s9_ar k l = true) : ct_f l = s9_i k := by
  unfold s9_ar at h
  rw [Bool.and_eq_true, Bool.and_eq_true] at h
  obtain ⟨⟨h1, h2⟩, h3⟩ := h
  funext j
  by_cases hj : j < 10
  · exact of_decide_eq_true (List.all_eq_true.mp h1 j (List.mem_range.mpr hj))
  · rw [s9_f_out (fun q hq => by have := Nat.le_of_ble_eq_true (List.all_eq_true.mp h2 q hq); omega)]
    unfold s9_i
    split
    · rename_i q hq
      have hm := List.mem_of_find?_eq_some hq
      have hp := List.find?_some hq
      rw [Bool.and_eq_true] at hp
      have e2 := Nat.eq_of_beq_eq_true hp.2
      have hb := List.all_eq_true.mp h3 q hm
      rw [hp.1, Bool.not_true, Bool.false_or] at hb
      have := Nat.le_of_ble_eq_true hb
      omega
    · rfl
def s9_c (k : Nat) (c : ct_C) (sp : ab_SP) : Bool := match c, sp with
  | .inl o, .inl q => o.1.beq q.1 && s9_fs k 0 q.2 o.2
  | .inr a, .inr r => a.1.beq r.1 && a.2.1.beq r.2 && s9_ar k a.2.2
  | _, _ => false
theorem s9_row {xs : Nat → Int32} {k : Nat} (hk : k ≤ 130) : s9 xs k = s9_i k := by
  funext j
  unfold s9
  rw [Nat.ble_eq_true_of_le hk]
  rfl
theorem s9_c_ok {cy : Nat → ClassId} {wr : Nat → Nat} {xs : Nat → Int32} {k b x : Nat} (hk : k ≤ 130) : ∀ {c : ct_C} {sp : ab_SP}, s9_c k c sp = true → ct_e cy b x c = ab_cell cy (fun i => b + i) wr sp (s9 xs k) := by
  intro c sp h
  rw [s9_row hk]
  cases c with
  | inl o =>
    cases sp with
    | inr r => cases h
    | inl q =>
      obtain ⟨o1, o2⟩ := o
      obtain ⟨q1, q2⟩ := q
      have h : (o1.beq q1 && s9_fs k 0 q2 o2) = true := h
      rw [Bool.and_eq_true] at h
      have e1 : o1 = q1 := Nat.eq_of_beq_eq_true h.1
      subst e1
      show (Sum.inr (o1, o2.map (ct_v b x)) : va_E) = Sum.inr (o1, q2.mapIdx (fun j f => ab_fv (fun i => b + i) wr f (s9_i k j)))
      rw [s9_fs_ok (b := b) (x := x) (wr := wr) q2 o2 0 h.2]
      rfl
  | inr a =>
    cases sp with
    | inl q => cases h
    | inr r =>
      obtain ⟨a1, a2, a3⟩ := a
      obtain ⟨r1, r2⟩ := r
      have h : (a1.beq r1 && a2.beq r2 && s9_ar k a3) = true := h
      rw [Bool.and_eq_true, Bool.and_eq_true] at h
      have e1 : a1 = r1 := Nat.eq_of_beq_eq_true h.1.1
      have e2 : a2 = r2 := Nat.eq_of_beq_eq_true h.1.2
      subst e1; subst e2
      show (Sum.inl (cy a1, ab_ar a1 a2 (ct_f a3)) : va_E) = Sum.inl (cy a1, ab_ar a1 a2 (s9_i k))
      rw [s9_ar_ok h.2]
def s9_all : Nat → List ct_C → List ab_SP → Bool
  | _, [], [] => true
  | k, c :: X, sp :: sh => s9_c k c sp && k.ble 130 && s9_all (k + 1) X sh
  | _, _, _ => false
theorem s9_all_ok {cy : Nat → ClassId} {wr : Nat → Nat} {xs : Nat → Int32} {b x : Nat} : ∀ (X : List ct_C) (sh : List ab_SP) (k : Nat), s9_all k X sh = true → X.mapIdx (fun i c => (b + (i + k), ct_e cy b x c)) = sh.mapIdx (fun i sp => (b + (i + k), ab_cell cy (fun i => b + i) wr sp (s9 xs (i + k)))) := by
  intro X
  induction X with
  | nil =>
    intro sh k h
    cases sh with
    | nil => rfl
    | cons v vs => cases h
  | cons c X ih =>
    intro sh k h
    cases sh with
    | nil => cases h
    | cons sp sh =>
      unfold s9_all at h
      rw [Bool.and_eq_true, Bool.and_eq_true] at h
      have h9 := ih sh (k + 1) h.2
      have e1 : ∀ i : Nat, i + 1 + k = i + (k + 1) := fun i => by omega
      rw [List.mapIdx_cons, List.mapIdx_cons]
      congr 1
      · rw [Nat.zero_add, s9_c_ok (cy := cy) (b := b) (x := x) (wr := wr) (xs := xs) (Nat.le_of_ble_eq_true h.1.2) h.1.1]
      · refine Eq.trans ?_ (h9.trans ?_)
        · congr 1
          funext i c
          rw [e1]
        · congr 1
          funext i sp
          rw [e1]
def st_1 : List ct_C := [] ++ [.inl (10, ct_kNotes.2.2.2.2.1)]
def st_2 : List ct_C := st_1.take 0 ++ ct_zNotes.map (ct_sc 0 (2, 0, 0))
def st_3 : List ct_C := st_2 ++ [.inl (11, ct_kModel.2.2.2.2.1)]
def st_4 : List ct_C := st_3.take 93 ++ ct_zModel.map (ct_sc 93 (2, 0, 0))
def st_5 : List ct_C := st_4 ++ [.inr (1, (1 : Int).toNat, [])]
theorem st_5_ok : s9_all 0 st_5 nn_sh = true := by decide +kernel
theorem st_len2 : st_2.length = 93 := by decide +kernel
theorem st_len3 : st_3.length = 94 := by decide +kernel
theorem st_len4 : st_4.length = 122 := by decide +kernel
theorem st_at3 : ct_eqc ((st_3[93]?).getD (.inr (0, 0, []))) (.inl (11, ct_kModel.2.2.2.2.1)) = true := by decide +kernel
theorem st_cell3 : st_3[93]? = some (.inl (11, ct_kModel.2.2.2.2.1)) := by
  have h := ct_eqc_ok st_at3
  rw [List.getElem?_eq_getElem (by rw [st_len3]; decide)] at h ⊢
  exact congrArg some h
theorem st_W {cy : Nat → ClassId} {wr : Nat → Nat} {xs : Nat → Int32} {b x : Nat} : ct_W cy b x st_5 = ab_WD cy (fun i => b + i) wr nn_sh (s9 xs) := s9_all_ok (cy := cy) (wr := wr) (xs := xs) (b := b) (x := x) st_5 nn_sh 0 st_5_ok
end
section
/-! both sides at the start -/
theorem rl_s9 (xs : Nat → Int32) : RQ9 (s9 xs) := by
  have e : ∀ k j : Nat, k ≤ 130 → s9 xs k j = s9_i k j := fun k j hk => by rw [s9_row hk]
  have z : ∀ k j : Nat, k ≤ 130 → s9_i k j = 0 → s9 xs k j = 0 := fun k j hk h => (e k j hk).trans h
  have f0 := z 102 0 (by decide) (by decide +kernel)
  have f1 := z 102 1 (by decide) (by decide +kernel)
  have t1 := z 1 1 (by decide) (by decide +kernel)
  refine ⟨⟨t1.trans (z 93 2 (by decide) (by decide +kernel)).symm, by rw [t1]; exact Int.le_refl 0, by rw [t1]; decide, fun j hj => by rw [t1] at hj; omega⟩, ⟨?_, ?_, ?_, Or.inr ⟨z 93 22 (by decide) (by decide +kernel), (e 3 14 (by decide)).trans (by decide +kernel), f0, f1, z 95 2 (by decide) (by decide +kernel)⟩⟩, ⟨(z 18 16 (by decide) (by decide +kernel)).trans f0.symm, Or.inl f0, fun h => ?_⟩, ⟨(z 33 16 (by decide) (by decide +kernel)).trans f1.symm, Or.inl f1, fun h => ?_⟩⟩
  · exact (z 3 11 (by decide) (by decide +kernel)).trans (z 95 0 (by decide) (by decide +kernel)).symm
  · exact (z 3 12 (by decide) (by decide +kernel)).trans (z 95 1 (by decide) (by decide +kernel)).symm
  · exact (z 3 13 (by decide) (by decide +kernel)).trans (z 95 2 (by decide) (by decide +kernel)).symm
  · rw [f0] at h
    exact absurd h (by decide)
  · rw [f1] at h
    exact absurd h (by decide)
theorem s9_no {k : Nat} (h : s9_x.all (fun q => !(q.1.1.beq k)) = true) (j : Nat) : s9_i k j = 0 := by
  have e : s9_x.find? (fun q => q.1.1.beq k && q.1.2.beq j) = none := List.find?_eq_none.mpr (fun q hq c => by
    have h1 := List.all_eq_true.mp h q hq
    rw [Bool.and_eq_true] at c
    rw [c.1] at h1
    cases h1)
  unfold s9_i
  rw [e]
/-- nothing has been told yet -/
def sA : ab_SG := fun k j => if k = 49 ∧ j = 14 then 9 else 0
theorem sA_0 {k j : Nat} (h : ¬ (k = 49 ∧ j = 14)) : sA k j = 0 := if_neg h
theorem sA_9 : sA 49 14 = 9 := if_pos ⟨rfl, rfl⟩
theorem rx_s9 (xs : Nat → Int32) : RQ (s9 xs) := by
  have e : ∀ k j : Nat, k ≤ 130 → s9 xs k j = s9_i k j := fun k j hk => by rw [s9_row hk]
  have z : ∀ k : Nat, k ≤ 130 → s9_x.all (fun q => !(q.1.1.beq k)) = true → ∀ j : Nat, s9 xs k j = 0 := fun k hk h j => (e k j hk).trans (s9_no h j)
  have f0 : s9 xs 102 0 = 0 := z 102 (by decide) (by decide +kernel) 0
  have f1 : s9 xs 102 1 = 0 := z 102 (by decide) (by decide +kernel) 1
  have z95 : ∀ j : Nat, s9 xs 95 j = 0 := z 95 (by decide) (by decide +kernel)
  have n0 : ∀ x : Nat, ¬ (x : Int) < 0 := fun x h => by omega
  have a11 : sA 49 11 = 0 := sA_0 (by decide)
  have a12 : sA 49 12 = 0 := sA_0 (by decide)
  have a13 : sA 49 13 = 0 := sA_0 (by decide)
  have l0 : ∀ j : Nat, j ≠ 3 → mlN (s9 xs) j = 0 := fun j hj => by
    unfold mlN
    rw [if_neg (fun y => hj y.2)]
    exact z95 j
  have d0 : fw_d 0 = 0 := fw_d_id (by decide) (by decide)
  refine ⟨rl_s9 xs, ⟨sA, ⟨?_, ?_, ?_, fun j _ => ?_, fun j _ => ?_, fun j _ => ?_, fun j _ => ?_, ?_⟩, ⟨fun x hx => ?_, fun c hx => ?_, fun j _ => ?_, fun j _ => ?_, ?_⟩, ⟨?_, ?_, ?_, ?_, fun x hx => ?_, fun c hx => ?_, fun j _ => ?_, fun j _ => ?_, fun p hx => ?_, fun w x y hw hx hy => ?_⟩, ⟨?_, ?_, ?_, ?_, fun x hx => ?_, fun c hx => ?_, fun j _ => ?_, fun j hx => ?_, fun j hx => ?_, fun j hx => ?_, fun j hx => ?_⟩⟩, fun h => ?_, fun h => ?_, jr_0 (z 85 (by decide) (by decide +kernel) 1) ((e 93 24 (by decide)).trans (by decide +kernel))⟩
  · rw [a11]; decide
  · rw [a12]; decide
  · rw [a13]; decide
  · rw [sA_0 (fun y => absurd y.1 (by decide))]; exact d0
  · rw [sA_0 (fun y => absurd y.1 (by decide))]; exact d0
  · rw [sA_0 (fun y => absurd y.1 (by decide))]; exact d0
  · rw [sA_0 (fun y => absurd y.1 (by decide))]; decide
  · rw [sA_0 (fun y => absurd y.1 (by decide))]; decide
  · rw [a11] at hx; exact absurd hx (n0 x)
  · rw [a12] at hx; exact absurd hx (n0 c)
  · rw [sA_0 (fun y => absurd y.1 (by decide))]; decide
  · rw [sA_0 (fun y => absurd y.1 (by decide))]; decide
  · rw [sA_9]; decide
  · rw [a11]; exact (e 3 11 (by decide)).trans (by decide +kernel)
  · rw [a12]; exact (e 3 12 (by decide)).trans (by decide +kernel)
  · rw [a13]; exact (e 3 13 (by decide)).trans (by decide +kernel)
  · rw [sA_9]; exact (e 3 14 (by decide)).trans (by decide +kernel)
  · rw [a11] at hx; exact absurd hx (n0 x)
  · rw [a12] at hx; exact absurd hx (n0 c)
  · rw [sA_0 (fun y => absurd y.1 (by decide))]; exact z 9 (by decide) (by decide +kernel) j
  · rw [sA_0 (fun y => absurd y.1 (by decide))]; exact z 10 (by decide) (by decide +kernel) j
  · rw [a13] at hx; exact absurd hx (n0 p)
  · rw [a11] at hx; exact absurd hx (n0 x)
  · rw [a11]; exact l0 0 (by decide)
  · rw [a12]; exact l0 1 (by decide)
  · rw [a13]; exact l0 2 (by decide)
  · rw [sA_9]
    unfold mlN
    exact if_pos ⟨(e 93 22 (by decide)).trans (by decide +kernel), rfl⟩
  · rw [a11] at hx; exact absurd hx (n0 x)
  · rw [a12] at hx; exact absurd hx (n0 c)
  · rw [sA_0 (fun y => absurd y.1 (by decide))]; exact l0 _ (by omega)
  · rw [a13] at hx; exact absurd hx (n0 j)
  · rw [a11] at hx; exact absurd hx (n0 j)
  · rw [a12] at hx; exact absurd hx (n0 j)
  · rw [a13] at hx; exact absurd hx (n0 j)
  · rw [f0] at h
    exact absurd h (by decide)
  · rw [f1] at h
    exact absurd h (by decide)
end
section
set_option maxHeartbeats 8000000 in
set_option maxRecDepth 100000 in
/-- THE LAW, from its entry -/
theorem whole_start {p : Program} {e : Env} {s : State} {m : MethodId} {below : List Frame} {meth : Method} {c : Code} (l : Launch) (hflags : l.flags = flags0) {b L : Nat} {xs : Nat → Int32} (hL : L ≤ 3584) (C0 : lw_At p s m meth c b L xs) : W p l e room_1 s m #[Value.ref b] below meth c s.heap [] 0 0 (lw_Z below #[Value.ref b] s) (entryFrame m ([Value.ref b] : List Value).toArray 8) := by
  obtain ⟨hx, hb, hr, hml, hown, hts, hX, hbl, hlocks, hgv⟩ := id C0
  obtain ⟨D, cy, hK⟩ := ls_K hts
  have hN := ls_N hts
  have hZ := ls_Z hts hgv
  obtain ⟨wr, cr, av, hcr, hCB, hY⟩ := ls_deep hts hgv b
  have hown2 : s.vm.findClass "NameNotesLaw" = some m.cls := hown
  have hTT : ∀ w ∈ nn_TT, w ∈ lw_tbl := fun w hw => (List.mem_filter.mp hw).1
  have htr : l.stackTraces = false := by
    unfold Launch.stackTraces
    rw [hflags]
    decide
  have hl := lv_entry ([.ref b]) (n := 8) (Nat.le_of_ble_eq_true rfl)
  rw [lg_entry_eq]
  generalize (lg_sl ([.ref b]) ++ List.replicate (8 - (lg_sl ([.ref b])).length) Slot.unset).toArray = ls at hl ⊢
  have hl : lv_has ls 8 [(0, .ref b)] := hl
  have hG0 : ct_G cy D s.heap.size 0 s.heap [] s.heap [] := ⟨fun k q h => absurd (ct_W_at h).1 (Nat.not_lt_zero k), rfl, va_S.rf⟩
  refine ct_new (b := s.heap.size) (x := 0) (ci := 10) (fs := ct_kNotes.2.2.2.2.1) hx hb hts hTT hown2 hK (show vwCl[10]? = some (RX11, TX11, 18) from rfl) (nn_at_ok (i := 1025) (by decide +kernel)) (nn_at_ok (i := 1026) (by decide +kernel)) (nn_at_ok (i := 1001) (by decide +kernel)) (by decide +kernel) (Nat.le_of_ble_eq_true rfl) (Nat.le_of_ble_eq_true rfl) (show decode code 0 = .ok (.new 8, 3) by decide +kernel) hG0 (fun H1 hG1 => ?_)
  have hG1 : ct_G cy D s.heap.size 0 s.heap st_1 H1 [] := hG1
  refine lv_dup hx hb (show decode code 3 = .ok (.dup, 1) by decide +kernel) rfl ?_
  refine W.widen (k := 1) (n := 18) (Nat.le_refl _) (Nat.le_refl _) ?_
  show W p l e room_1 s m #[Value.ref b] below meth c H1 [] 1 18 (lw_Z below #[Value.ref b] s) (F0 m 4 ls (cond false [Value.ref 0] [] ++ Value.ref (s.heap.size + 0) :: [Value.ref (s.heap.size + 0)]))
  refine ct_call (b := s.heap.size) (x := 0) (x' := 0) (k := 0) (a := (2, 0, 0)) hx hb hml hl.1 hts hTT hown2 hK hN (ct_hNotes l cy D) (show 0 + 1 = st_1.length from rfl) rfl (by decide +kernel) rfl (nn_at_ok (i := 1029) (by decide +kernel)) (nn_at_ok (i := 1001) (by decide +kernel)) ⟨by decide +kernel, by decide +kernel⟩ (by decide +kernel) rfl (nn_at_ok (i := 1028) (by decide +kernel)) (Or.inl (nn_at_ok (i := 1027) (by decide +kernel))) ⟨Nat.le_of_ble_eq_true rfl, Nat.le_of_ble_eq_true rfl⟩ ⟨Nat.le_of_ble_eq_true rfl, Nat.le_of_ble_eq_true rfl⟩ (Nat.le_of_ble_eq_true rfl) (show decode code 4 = .ok (.invokespecial 42, 3) by decide +kernel) hG1 (fun H2 locs2 hG2 => ?_)
  have hG2 : ct_G cy D s.heap.size 0 s.heap st_2 H2 locs2 := hG2
  refine W.widen (k := 93) (n := 5108) (Nat.le_of_ble_eq_true rfl) (Nat.le_of_ble_eq_true rfl) ?_
  refine lv_astore_n (lv' := [(1, .ref (s.heap.size + 0)), (0, .ref b)]) hx hb (show decode code 7 = .ok (.astore_n 1, 1) by decide +kernel) rfl hl (by decide) rfl (fun ls hl => ?_)
  refine ct_new (b := s.heap.size) (x := 0) (ci := 11) (fs := ct_kModel.2.2.2.2.1) hx hb hts hTT hown2 hK (show vwCl[11]? = some (RX12, TX12, 63) from rfl) (nn_at_ok (i := 7007) (by decide +kernel)) (nn_at_ok (i := 7008) (by decide +kernel)) (nn_at_ok (i := 1012) (by decide +kernel)) (by decide +kernel) (Nat.le_of_ble_eq_true rfl) (Nat.le_of_ble_eq_true rfl) (show decode code 8 = .ok (.new 43, 3) by decide +kernel) hG2 (fun H3 hG3 => ?_)
  have hG3 : ct_G cy D s.heap.size 0 s.heap st_3 H3 locs2 := hG3
  rw [st_len2]
  refine lv_dup hx hb (show decode code 11 = .ok (.dup, 1) by decide +kernel) rfl ?_
  refine W.widen (k := 94) (n := 5171) (Nat.le_of_ble_eq_true rfl) (Nat.le_of_ble_eq_true rfl) ?_
  show W p l e room_1 s m #[Value.ref b] below meth c H3 locs2 94 5171 (lw_Z below #[Value.ref b] s) (F0 m 12 ls (cond false [Value.ref 0] [] ++ Value.ref (s.heap.size + 93) :: [Value.ref (s.heap.size + 93)]))
  refine ct_call (b := s.heap.size) (x := 0) (x' := 0) (k := 93) (a := (2, 0, 0)) hx hb hml hl.1 hts hTT hown2 hK hN (ct_hModel l cy D) st_len3.symm st_cell3 (by decide +kernel) rfl (nn_at_ok (i := 7011) (by decide +kernel)) (nn_at_ok (i := 1012) (by decide +kernel)) ⟨by decide +kernel, by decide +kernel⟩ (by decide +kernel) rfl (nn_at_ok (i := 7010) (by decide +kernel)) (Or.inl (nn_at_ok (i := 7009) (by decide +kernel))) ⟨Nat.le_of_ble_eq_true rfl, Nat.le_of_ble_eq_true rfl⟩ ⟨Nat.le_of_ble_eq_true rfl, Nat.le_of_ble_eq_true rfl⟩ (Nat.le_of_ble_eq_true rfl) (show decode code 12 = .ok (.invokespecial 45, 3) by decide +kernel) hG3 (fun H4 locs4 hG4 => ?_)
  have hG4 : ct_G cy D s.heap.size 0 s.heap st_4 H4 locs4 := hG4
  refine W.widen (k := 122) (n := 8885) (Nat.le_of_ble_eq_true rfl) (Nat.le_of_ble_eq_true rfl) ?_
  refine lv_astore_n (lv' := [(2, .ref (s.heap.size + 93)), (1, .ref (s.heap.size + 0)), (0, .ref b)]) hx hb (show decode code 15 = .ok (.astore_n 2, 1) by decide +kernel) rfl hl (by decide) rfl (fun ls hl => ?_)
  refine lv_iconst (v := Int32.ofInt 1) hx hb (show decode code 16 = .ok (.iconst 1, 1) by decide +kernel) rfl ?_
  refine ct_newa (b := s.heap.size) (x := 0) (t := 1) (z := 1) hx hb hts hTT hK (by decide) (nn_at_ok (i := 1116) (by decide +kernel)) (by decide) (by decide) (Nat.le_of_ble_eq_true rfl) (Nat.le_of_ble_eq_true rfl) (show decode code 17 = .ok (.newarray .long, 2) by decide +kernel) hG4 (fun H5 hG5 => ?_)
  have hG5 : ct_G cy D s.heap.size 0 s.heap st_5 H5 locs4 := hG5
  rw [st_len4]
  refine W.widen (k := 123) (n := 8886) (Nat.le_of_ble_eq_true rfl) (Nat.le_of_ble_eq_true rfl) ?_
  refine lv_astore_n (lv' := [(3, .ref (s.heap.size + 122)), (2, .ref (s.heap.size + 93)), (1, .ref (s.heap.size + 0)), (0, .ref b)]) hx hb (show decode code 19 = .ok (.astore_n 3, 1) by decide +kernel) rfl hl (by decide) rfl (fun ls hl => ?_)
  refine lv_iconst (v := Int32.ofInt (0 + 0)) hx hb (show decode code 20 = .ok (.iconst 0, 1) by decide +kernel) rfl ?_
  refine lv_istore (lv' := [(4, .int (Int32.ofInt (0 + 0))), (3, .ref (s.heap.size + 122)), (2, .ref (s.heap.size + 93)), (1, .ref (s.heap.size + 0)), (0, .ref b)]) hx hb (show decode code 21 = .ok (.istore 4, 2) by decide +kernel) hl (by decide) rfl (fun ls hl => ?_)
  have hinj : nn_inj (fun i : Nat => s.heap.size + i) := fun i j _ _ h => Nat.add_left_cancel h
  have hL9 : (L : Int) ≤ 3584 := by omega
  have hP9 : va_P D vwCl (ab_WD cy (fun i => s.heap.size + i) wr nn_sh (s9 xs)) H5 := by
    rw [← st_W (x := 0)]
    exact hG5.1
  have e_1_1 : s9 xs 1 1 = 0 := by rw [s9_row (by decide)]; decide +kernel
  have e_93_2 : s9 xs 93 2 = 0 := by rw [s9_row (by decide)]; decide +kernel
  have e_93_23 : s9 xs 93 23 = 0 := by rw [s9_row (by decide)]; decide +kernel
  have e_130_1 : s9 xs 130 1 = 0 := by rw [s9_row (by decide)]; decide +kernel
  have e_130_2 : s9 xs 130 2 = 0 := by rw [s9_row (by decide)]; decide +kernel
  have e_93_22 : s9 xs 93 22 = 0 := by rw [s9_row (by decide)]; decide +kernel
  have e_95_0 : s9 xs 95 0 = 0 := by rw [s9_row (by decide)]; decide +kernel
  have e_95_1 : s9 xs 95 1 = 0 := by rw [s9_row (by decide)]; decide +kernel
  have e_95_2 : s9 xs 95 2 = 0 := by rw [s9_row (by decide)]; decide +kernel
  have e_95_3 : s9 xs 95 3 = 0 := by rw [s9_row (by decide)]; decide +kernel
  refine lw_turns (l := l) htr C0 (cy := cy) (ad := fun i => s.heap.size + i) (wr := wr) (cr := cr) (av := av) (D := D) hinj hcr (fun k _ => Nat.le_add_right _ _) hK hN (hCB _ _) hZ hY (npl_held l cy _ wr cr av D hinj) 3585 123 8886 (fun i => cond (i.beq 1) (L : Int) 0) (s9 xs) H5 locs4 ls [] (show (3584 : Int) - 0 < 3585 by decide) (Nat.le_of_ble_eq_true rfl) (Nat.le_of_ble_eq_true rfl) rfl (fun j _ => rfl) (rx_s9 xs) ⟨⟨?_, ?_, rfl, (show 0 < 10 by decide), ?_, s9_R xs, s9_okC2 xs, fun _ _ _ => rfl⟩, fun _ _ => rfl, (show 10 ≤ 10 by decide), ⟨?_, ?_⟩, ⟨rfl, fun a h => absurd h List.not_mem_nil⟩, hP9, hG5.2.2⟩
  · intro i hi
    have hi : i < 10 := hi
    match i, hi with
    | 0, _ => exact ⟨show (0 : Int) ≤ 0 by decide, show (0 : Int) ≤ 0 by decide⟩
    | 1, _ => exact ⟨show (0 : Int) ≤ (L : Int) by omega, hL9⟩
    | 2, _ => exact ⟨show (0 : Int) ≤ 0 by decide, show (0 : Int) ≤ 3584 by decide⟩
    | 3, _ => exact ⟨show (0 : Int) ≤ 0 by decide, show (0 : Int) ≤ 940 by decide⟩
    | 4, _ => exact ⟨show (0 : Int) ≤ 0 by decide, show (0 : Int) ≤ 3584 by decide⟩
    | 5, _ => exact ⟨show (0 : Int) ≤ 0 by decide, show (0 : Int) ≤ 1 by decide⟩
    | 6, _ => exact ⟨show (0 : Int) ≤ 0 by decide, show (0 : Int) ≤ 9 by decide⟩
    | 7, _ => exact ⟨show (0 : Int) ≤ 0 by decide, show (0 : Int) ≤ 6 by decide⟩
    | 8, _ => exact ⟨show (0 : Int) ≤ 0 by decide, show (0 : Int) ≤ 5 by decide⟩
    | 9, _ => exact ⟨show (0 : Int) ≤ 0 by decide, show (0 : Int) ≤ 9 by decide⟩
  · show ∀ f ∈ [((4, 2, 0) : Nat × Nat × Int)], _
    exact List.forall_mem_cons.mpr ⟨⟨(show 4 < 10 by decide), (show 2 < 10 by decide), (show (0 : Int) - 0 ≤ 0 by decide)⟩, fun _ h => absurd h List.not_mem_nil⟩
  · show ∀ d ∈ ([((1, 1), (3, 0)), ((93, 2), (3, 0)), ((93, 23), (4, 0)), ((130, 1), (0, 0)), ((130, 2), (0, 0)), ((93, 22), (5, 0)), ((95, 0), (6, 0)), ((95, 1), (7, 0)), ((95, 2), (8, 0)), ((95, 3), (9, 0))] : ab_DL), _
    have key : ∀ {k j i : Nat}, j.ble 1999999 = true → i < 10 → i.beq 1 = false → s9 xs k j = 0 → (i < 10 ∧ ab_kn 10 j ∧ s9 xs k (ab_kv (fun i => cond (i.beq 1) (L : Int) 0) j) = (cond (i.beq 1) (L : Int) 0) + 0) := by
      intro k j i h1 h2 h3 h4
      refine ⟨h2, Or.inl h1, ?_⟩
      rw [ab_kv_pl h1, h4, h3]
      rfl
    exact List.forall_mem_cons.mpr ⟨key rfl (by decide) rfl e_1_1, List.forall_mem_cons.mpr ⟨key rfl (by decide) rfl e_93_2, List.forall_mem_cons.mpr ⟨key rfl (by decide) rfl e_93_23, List.forall_mem_cons.mpr ⟨key rfl (by decide) rfl e_130_1, List.forall_mem_cons.mpr ⟨key rfl (by decide) rfl e_130_2, List.forall_mem_cons.mpr ⟨key rfl (by decide) rfl e_93_22, List.forall_mem_cons.mpr ⟨key rfl (by decide) rfl e_95_0, List.forall_mem_cons.mpr ⟨key rfl (by decide) rfl e_95_1, List.forall_mem_cons.mpr ⟨key rfl (by decide) rfl e_95_2, List.forall_mem_cons.mpr ⟨key rfl (by decide) rfl e_95_3, fun _ h => absurd h List.not_mem_nil⟩⟩⟩⟩⟩⟩⟩⟩⟩⟩
  · show lv_has ls 8 [(0, .ref (cr 999)), (1, .ref (s.heap.size + 0)), (2, .ref (s.heap.size + 93)), (3, .ref (s.heap.size + 122)), (4, .int (Int32.ofInt (0 + 0)))]
    rw [hcr]
    exact lv_sub hl [4, 3, 2, 1, 0] rfl
  · show ∀ q ∈ ([(0, (5, 999, 0)), (1, (2, 0, 0)), (2, (2, 93, 0)), (3, (2, 122, 0)), (4, (0, 2, 0))] : ab_LS), ab_sy 10 q.2
    exact List.forall_mem_cons.mpr ⟨trivial, List.forall_mem_cons.mpr ⟨trivial, List.forall_mem_cons.mpr ⟨trivial, List.forall_mem_cons.mpr ⟨trivial, List.forall_mem_cons.mpr ⟨(show 2 < 10 by decide), fun _ h => absurd h List.not_mem_nil⟩⟩⟩⟩⟩
end
