/-! the cells behind the constructors are the world at its start -/
def s9_v (k j : Nat) (f : Nat × Nat) (v : ct_V) : Bool :=
  (v.1.beq 0 && f.1.beq 0 && decide (v.2.2 = s9_i k j)) || (v.1.beq 1 && f.1.beq 2 && v.2.1.beq f.2) || (v.1.beq 3 && f.1.beq 3) || (v.1.beq 3 && f.1.beq 4 && decide (s9_i k j = -1)) || (v.1.beq 4 && f.1.beq 1 && decide (v.2.2 = s9_i k j))
theorem s9_v_ok {k j b x : Nat} {wr : Nat → Nat} {f : Nat × Nat} {v : ct_V} (h : s9_v k j f v = true) : ct_v b x v = ab_fv (fun i => b + i) wr f (s9_i k j) := by
  obtain ⟨t, i, z⟩ := v
  obtain ⟨u, n⟩ := f
  unfold s9_v at h
  rw [Bool.or_eq_true, Bool.or_eq_true, Bool.or_eq_true, Bool.or_eq_true] at h
  rcases h with (((h | h) | h) | h) | h
  · rw [Bool.and_eq_true, Bool.and_eq_true, decide_eq_true_eq] at h
    have e1 : t = 0 := Nat.eq_of_beq_eq_true h.1.1
    have e2 : u = 0 := Nat.eq_of_beq_eq_true h.1.2
    have e3 : z = s9_i k j := h.2
    subst e1; subst e2; subst e3
    rfl
  · rw [Bool.and_eq_true, Bool.and_eq_true] at h
    have e1 : t = 1 := Nat.eq_of_beq_eq_true h.1.1
    have e2 : u = 2 := Nat.eq_of_beq_eq_true h.1.2
    have e3 : i = n := Nat.eq_of_beq_eq_true h.2
    subst e1; subst e2; subst e3
    rfl
  · rw [Bool.and_eq_true] at h
    have e1 : t = 3 := Nat.eq_of_beq_eq_true h.1
    have e2 : u = 3 := Nat.eq_of_beq_eq_true h.2
    subst e1; subst e2
    rfl
  · rw [Bool.and_eq_true, Bool.and_eq_true, decide_eq_true_eq] at h
    have e1 : t = 3 := Nat.eq_of_beq_eq_true h.1.1
    have e2 : u = 4 := Nat.eq_of_beq_eq_true h.1.2
    subst e1; subst e2
    rw [h.2]
    rfl
  · rw [Bool.and_eq_true, Bool.and_eq_true, decide_eq_true_eq] at h
    have e1 : t = 4 := Nat.eq_of_beq_eq_true h.1.1
    have e2 : u = 1 := Nat.eq_of_beq_eq_true h.1.2
    have e3 : z = s9_i k j := h.2
    subst e1; subst e2; subst e3
    rfl
def s9_fs (k : Nat) : Nat → List (Nat × Nat) → List ct_V → Bool
  | _, [], [] => true
  | j, f :: fs, v :: vs => s9_v k j f v && s9_fs k (j + 1) fs vs
  | _, _, _ => false
theorem s9_fs_ok {k b x : Nat} {wr : Nat → Nat} : ∀ (fs : List (Nat × Nat)) (vs : List ct_V) (j : Nat), s9_fs k j fs vs = true → vs.map (ct_v b x) = fs.mapIdx (fun i f => ab_fv (fun i => b + i) wr f (s9_i k (i + j))) := by
  intro fs
  induction fs with
  | nil =>
    intro vs j h
    cases vs with
    | nil => rfl
    | cons v vs => cases h
  | cons f fs ih =>
    intro vs j h
    cases vs with
    | nil => cases h
    | cons v vs =>
      unfold s9_fs at h
      rw [Bool.and_eq_true] at h
      rw [List.map_cons, List.mapIdx_cons, s9_v_ok (b := b) (x := x) (wr := wr) h.1, ih vs (j + 1) h.2, Nat.zero_add]
      congr 2
      funext i f
      rw [Nat.add_assoc, Nat.add_comm 1 j]
theorem s9_f_out : ∀ {l : List (Nat × Int)} {j : Nat}, (∀ q ∈ l, q.1 < j) → ct_f l j = 0 := by
  intro l
  induction l with
  | nil => intro j _; rfl
  | cons q l ih =>
    intro j h
    unfold ct_f
    have h1 := h q List.mem_cons_self
    rw [show j.beq q.1 = false from Bool.eq_false_iff.mpr (fun z => by have := Nat.eq_of_beq_eq_true z; omega)]
    exact ih (fun r hr => h r (List.mem_cons_of_mem _ hr))
def s9_ar (k : Nat) (l : List (Nat × Int)) : Bool := (List.range 10).all (fun j => decide (ct_f l j = s9_i k j)) && l.all (fun q => (q.1 + 1).ble 10) && s9_x.all (fun q => !(q.1.1.beq k) || (q.1.2 + 1).ble 10)
theorem s9_ar_ok {k : Nat} {l : List (Nat × Int)} (h : s9_ar k l = true) : ct_f l = s9_i k := by
  unfold s9_ar at h
  rw [Bool.and_eq_true, Bool.and_eq_true] at h
  obtain ⟨⟨h1, h2⟩, h3⟩ := h
  funext j
  by_cases hj : j < 10
  · exact of_decide_eq_true (List.all_eq_true.mp h1 j (List.mem_range.mpr hj))
  · rw [s9_f_out (fun q hq => by have := Nat.le_of_ble_eq_true (List.all_eq_true.mp h2 q hq); omega)]
    unfold s9_i
    split
    · rename_i q hq
      have hm := List.mem_of_find?_eq_some hq
      have hp := List.find?_some hq
      rw [Bool.and_eq_true] at hp
      have e2 := Nat.eq_of_beq_eq_true hp.2
      have hb := List.all_eq_true.mp h3 q hm
      rw [hp.1, Bool.not_true, Bool.false_or] at hb
      have := Nat.le_of_ble_eq_true hb
      omega
    · rfl
def s9_c (k : Nat) (c : ct_C) (sp : ab_SP) : Bool := match c, sp with
  | .inl o, .inl q => o.1.beq q.1 && s9_fs k 0 q.2 o.2
  | .inr a, .inr r => a.1.beq r.1 && a.2.1.beq r.2 && s9_ar k a.2.2
  | _, _ => false
theorem s9_row {xs : Nat → Int32} {k : Nat} (hk : k ≤ 130) : s9 xs k = s9_i k := by
  funext j
  unfold s9
  rw [Nat.ble_eq_true_of_le hk]
  rfl
theorem s9_c_ok {cy : Nat → ClassId} {wr : Nat → Nat} {xs : Nat → Int32} {k b x : Nat} (hk : k ≤ 130) : ∀ {c : ct_C} {sp : ab_SP}, s9_c k c sp = true → ct_e cy b x c = ab_cell cy (fun i => b + i) wr sp (s9 xs k) := by
  intro c sp h
  rw [s9_row hk]
  cases c with
  | inl o =>
    cases sp with
    | inr r => cases h
    | inl q =>
      obtain ⟨o1, o2⟩ := o
      obtain ⟨q1, q2⟩ := q
      have h : (o1.beq q1 && s9_fs k 0 q2 o2) = true := h
      rw [Bool.and_eq_true] at h
      have e1 : o1 = q1 := Nat.eq_of_beq_eq_true h.1
      subst e1
      show (Sum.inr (o1, o2.map (ct_v b x)) : va_E) = Sum.inr (o1, q2.mapIdx (fun j f => ab_fv (fun i => b + i) wr f (s9_i k j)))
      rw [s9_fs_ok (b := b) (x := x) (wr := wr) q2 o2 0 h.2]
      rfl
  | inr a =>
    cases sp with
    | inl q => cases h
    | inr r =>
      obtain ⟨a1, a2, a3⟩ := a
      obtain ⟨r1, r2⟩ := r
      have h : (a1.beq r1 && a2.beq r2 && s9_ar k a3) = true := h
      rw [Bool.and_eq_true, Bool.and_eq_true] at h
      have e1 : a1 = r1 := Nat.eq_of_beq_eq_true h.1.1
      have e2 : a2 = r2 := Nat.eq_of_beq_eq_true h.1.2
      subst e1; subst e2
      show (Sum.inl (cy a1, ab_ar a1 a2 (ct_f a3)) : va_E) = Sum.inl (cy a1, ab_ar a1 a2 (s9_i k))
      rw [s9_ar_ok h.2]
def s9_all : Nat → List ct_C → List ab_SP → Bool
  | _, [], [] => true
  | k, c :: X, sp :: sh => s9_c k c sp && k.ble 130 && s9_all (k + 1) X sh
  | _, _, _ => false
theorem s9_all_ok {cy : Nat → ClassId} {wr : Nat → Nat} {xs : Nat → Int32} {b x : Nat} : ∀ (X : List ct_C) (sh : List ab_SP) (k : Nat), s9_all k X sh = true → X.mapIdx (fun i c => (b + (i + k), ct_e cy b x c)) = sh.mapIdx (fun i sp => (b + (i + k), ab_cell cy (fun i => b + i) wr sp (s9 xs (i + k)))) := by
  intro X
  induction X with
  | nil =>
    intro sh k h
    cases sh with
    | nil => rfl
    | cons v vs => cases h
  | cons c X ih =>
    intro sh k h
    cases sh with
    | nil => cases h
    | cons sp sh =>
      unfold s9_all at h
      rw [Bool.and_eq_true, Bool.and_eq_true] at h
      have h9 := ih sh (k + 1) h.2
      have e1 : ∀ i : Nat, i + 1 + k = i + (k + 1) := fun i => by omega
      rw [List.mapIdx_cons, List.mapIdx_cons]
      congr 1
      · rw [Nat.zero_add, s9_c_ok (cy := cy) (b := b) (x := x) (wr := wr) (xs := xs) (Nat.le_of_ble_eq_true h.1.2) h.1.1]
      · refine Eq.trans ?_ (h9.trans ?_)
        · congr 1
          funext i c
          rw [e1]
        · congr 1
          funext i sp
          rw [e1]
def st_1 : List ct_C := [] ++ [.inl (10, ct_kNotes.2.2.2.2.1)]
def st_2 : List ct_C := st_1.take 0 ++ ct_zNotes.map (ct_sc 0 (2, 0, 0))
def st_3 : List ct_C := st_2 ++ [.inl (11, ct_kModel.2.2.2.2.1)]
def st_4 : List ct_C := st_3.take 93 ++ ct_zModel.map (ct_sc 93 (2, 0, 0))
def st_5 : List ct_C := st_4 ++ [.inr (1, (1 : Int).toNat, [])]
theorem st_5_ok : s9_all 0 st_5 nn_sh = true := by decide +kernel
theorem st_len2 : st_2.length = 93 := by decide +kernel
theorem st_len3 : st_3.length = 94 := by decide +kernel
theorem st_len4 : st_4.length = 122 := by decide +kernel
theorem st_at3 : ct_eqc ((st_3[93]?).getD (.inr (0, 0, []))) (.inl (11, ct_kModel.2.2.2.2.1)) = true := by decide +kernel
theorem st_cell3 : st_3[93]? = some (.inl (11, ct_kModel.2.2.2.2.1)) := by
  have h := ct_eqc_ok st_at3
  rw [List.getElem?_eq_getElem (by rw [st_len3]; decide)] at h ⊢
  exact congrArg some h
theorem st_W {cy : Nat → ClassId} {wr : Nat → Nat} {xs : Nat → Int32} {b x : Nat} : ct_W cy b x st_5 = ab_WD cy (fun i => b + i) wr nn_sh (s9 xs) := s9_all_ok (cy := cy) (wr := wr) (xs := xs) (b := b) (x := x) st_5 nn_sh 0 st_5_ok
