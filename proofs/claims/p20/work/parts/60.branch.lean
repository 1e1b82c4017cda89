/-! branches: what is known on either side -/
def ab_rel (r : Nat) (x y : Int) : Prop := match r with
  | 0 => x = y
  | 1 => x ≠ y
  | 2 => x < y
  | 3 => y ≤ x
  | 4 => y < x
  | _ => x ≤ y
def ab_neg (r : Nat) : Nat := match r with
  | 0 => 1
  | 1 => 0
  | 2 => 3
  | 3 => 2
  | 4 => 5
  | _ => 4
theorem ab_rel_neg {r : Nat} {x y : Int} (h : ¬ ab_rel r x y) : ab_rel (ab_neg r) x y := by
  match r, h with
  | 0, h => exact h
  | 1, h => exact Classical.not_not.mp h
  | 2, h => exact Int.not_lt.mp h
  | 3, h => exact Int.not_le.mp h
  | 4, h => exact Int.not_lt.mp h
  | n + 5, h => exact Int.not_le.mp h
def ab_ol (o : Option (ab_BD × ab_FT)) : List (ab_BD × ab_FT) := match o with
  | some q => [q]
  | none => []
def ab_asE (B : ab_BD) (F : ab_FT) (s t : Nat) (k : Int) : List (ab_BD × ab_FT) := match ab_asm B F s t k with
  | some q => ab_ol (ab_asm q.1 q.2 t s (-k))
  | none => []
/-- rho s + c stands in the relation r to rho t + d -/
def ab_as (sp : Bool) (B : ab_BD) (F : ab_FT) (r s : Nat) (c : Int) (t : Nat) (d : Int) : List (ab_BD × ab_FT) := match r with
  | 0 => ab_asE B F s t (d - c)
  | 1 => cond (ab_le (ab_ub B F s t) (d - c)) (ab_ol (ab_asm B F s t (d - c - 1)))
      (cond (ab_le (ab_ub B F t s) (c - d)) (ab_ol (ab_asm B F t s (c - d - 1)))
        (cond sp (ab_ol (ab_asm B F s t (d - c - 1)) ++ ab_ol (ab_asm B F t s (c - d - 1))) [(B, F)]))
  | 2 => ab_ol (ab_asm B F s t (d - c - 1))
  | 3 => ab_ol (ab_asm B F t s (c - d))
  | 4 => ab_ol (ab_asm B F t s (c - d - 1))
  | _ => ab_ol (ab_asm B F s t (d - c))
def ab_okBF (n : Nat) (ρ : Nat → Int) (q : ab_BD × ab_FT) : Prop := q.1.length = n ∧ ab_okB q.1 ρ ∧ ab_okF n q.2 ρ
theorem ab_ol_ok {B : ab_BD} {F : ab_FT} {ρ : Nat → Int} {s t : Nat} {k : Int} (hB : ab_okB B ρ) (hF : ab_okF B.length F ρ) (hs : s < B.length) (ht : t < B.length) (h : ρ s - ρ t ≤ k) :
    ∃ q ∈ ab_ol (ab_asm B F s t k), ab_okBF B.length ρ q := by
  obtain ⟨B', F', h1, h2, h3, h4⟩ := ab_asm_ok hB hF hs ht h
  rw [h1]
  exact ⟨(B', F'), List.mem_singleton.mpr rfl, h2, h3, h4⟩
theorem ab_asE_ok {B : ab_BD} {F : ab_FT} {ρ : Nat → Int} {s t : Nat} {k : Int} (hB : ab_okB B ρ) (hF : ab_okF B.length F ρ) (hs : s < B.length) (ht : t < B.length) (h : ρ s - ρ t = k) :
    ∃ q ∈ ab_asE B F s t k, ab_okBF B.length ρ q := by
  obtain ⟨B', F', h1, h2, h3, h4⟩ := ab_asm_ok (k := k) hB hF hs ht (by omega)
  unfold ab_asE
  rw [h1]
  obtain ⟨q, hq, g1, g2, g3⟩ := ab_ol_ok (s := t) (t := s) (k := -k) h3 (by rw [h2]; exact h4) (by rw [h2]; exact ht) (by rw [h2]; exact hs) (by omega)
  exact ⟨q, hq, g1.trans h2, g2, by rw [h2] at g3; exact g3⟩
theorem ab_as_ok {sp : Bool} {B : ab_BD} {F : ab_FT} {ρ : Nat → Int} {r s t : Nat} {c d : Int} (hB : ab_okB B ρ) (hF : ab_okF B.length F ρ) (hs : s < B.length) (ht : t < B.length) (h : ab_rel r (ρ s + c) (ρ t + d)) :
    ∃ q ∈ ab_as sp B F r s c t d, ab_okBF B.length ρ q := by
  match r, h with
  | 0, h =>
    have h : ρ s + c = ρ t + d := h
    exact ab_asE_ok hB hF hs ht (by omega)
  | 1, h =>
    have h : ρ s + c ≠ ρ t + d := h
    show ∃ q ∈ cond _ _ _, _
    cases h1 : ab_le (ab_ub B F s t) (d - c) with
    | true =>
      have h2 := ab_le_iff.mp h1
      have h3 := ab_ub_ok hB hF hs ht
      exact ab_ol_ok hB hF hs ht (by omega)
    | false =>
      show ∃ q ∈ cond _ _ _, _
      cases h4 : ab_le (ab_ub B F t s) (c - d) with
      | true =>
        have h2 := ab_le_iff.mp h4
        have h3 := ab_ub_ok hB hF ht hs
        exact ab_ol_ok hB hF ht hs (by omega)
      | false =>
        show ∃ q ∈ cond _ _ _, _
        cases sp with
        | false => exact ⟨(B, F), List.mem_singleton.mpr rfl, rfl, hB, hF⟩
        | true =>
          rcases Int.lt_or_gt_of_ne h with g | g
          · obtain ⟨q, hq, hq2⟩ := ab_ol_ok (k := d - c - 1) hB hF hs ht (by omega)
            exact ⟨q, List.mem_append_left _ hq, hq2⟩
          · obtain ⟨q, hq, hq2⟩ := ab_ol_ok (k := c - d - 1) hB hF ht hs (by omega)
            exact ⟨q, List.mem_append_right _ hq, hq2⟩
  | 2, h =>
    have h : ρ s + c < ρ t + d := h
    exact ab_ol_ok hB hF hs ht (by omega)
  | 3, h =>
    have h : ρ t + d ≤ ρ s + c := h
    exact ab_ol_ok hB hF ht hs (by omega)
  | 4, h =>
    have h : ρ t + d < ρ s + c := h
    exact ab_ol_ok hB hF ht hs (by omega)
  | n + 5, h =>
    have h : ρ s + c ≤ ρ t + d := h
    exact ab_ol_ok hB hF hs ht (by omega)
def ab_ic (i : Instr) : Option (Nat × Int) := match i with
  | .if_icmp .eq o => some (0, o)
  | .if_icmp .ne o => some (1, o)
  | .if_icmp .lt o => some (2, o)
  | .if_icmp .ge o => some (3, o)
  | .if_icmp .gt o => some (4, o)
  | .if_icmp .le o => some (5, o)
  | _ => none
def ab_iz (i : Instr) : Option (Nat × Int) := match i with
  | .ifCond .eq o => some (0, o)
  | .ifCond .ne o => some (1, o)
  | .ifCond .lt o => some (2, o)
  | .ifCond .ge o => some (3, o)
  | .ifCond .gt o => some (4, o)
  | .ifCond .le o => some (5, o)
  | _ => none
section
variable {p : Program} {l : Launch} {e : Env} {R : Room} {s : State} {m : MethodId} {args : Array Value} {below : List Frame} {meth : Method} {c : Code} {H : Heap} {locs : List Loc} {cells slots : Nat} {Q : State → Prop} {cc : ByteArray} {pc : Nat} {ls : Array Slot} {rest : List Value}
theorem ab_ic_row (hx : p.tables.exec = Jvm.exec) (hb : c.code = cc) {i : Instr} {r : Nat} {off : Int} {tgt : Nat} (ho : ab_ic i = some (r, off)) {x y : Int32} (hdg : decode cc pc = .ok (i, 3)) (ht : (pc : Int) + off = (tgt : Int))
    (kt : ab_rel r x.toInt y.toInt → W p l e R s m args below meth c H locs cells slots Q (F0 m tgt ls rest)) (kf : ab_rel (ab_neg r) x.toInt y.toInt → W p l e R s m args below meth c H locs cells slots Q (F0 m (pc + 3) ls rest)) : W p l e R s m args below meth c H locs cells slots Q (F0 m pc ls (.int y :: .int x :: rest)) := by
  unfold ab_ic at ho
  split at ho
  · cases ho; exact lv_icmp_eq hx hb hdg ht (fun h => kt (Int32.toInt_inj.mpr h)) (fun h => kf (fun q => h (Int32.toInt_inj.mp q)))
  · cases ho; exact lv_icmp_ne hx hb hdg ht (fun h => kt (fun q => h (Int32.toInt_inj.mp q))) (fun h => kf (Int32.toInt_inj.mpr h))
  · cases ho; exact lv_icmp_lt hx hb hdg ht (fun h => kt (Int32.lt_iff_toInt_lt.mp h)) (fun h => kf (Int.not_lt.mp (fun q => h (Int32.lt_iff_toInt_lt.mpr q))))
  · cases ho; exact lv_icmp_ge hx hb hdg ht (fun h => kt (Int32.le_iff_toInt_le.mp h)) (fun h => kf (Int.not_le.mp (fun q => h (Int32.le_iff_toInt_le.mpr q))))
  · cases ho; exact lv_icmp_gt hx hb hdg ht (fun h => kt (Int32.lt_iff_toInt_lt.mp h)) (fun h => kf (Int.not_lt.mp (fun q => h (Int32.lt_iff_toInt_lt.mpr q))))
  · cases ho; exact lv_icmp_le hx hb hdg ht (fun h => kt (Int32.le_iff_toInt_le.mp h)) (fun h => kf (Int.not_le.mp (fun q => h (Int32.le_iff_toInt_le.mpr q))))
  · cases ho
theorem ab_iz_row (hx : p.tables.exec = Jvm.exec) (hb : c.code = cc) {i : Instr} {r : Nat} {off : Int} {tgt : Nat} (ho : ab_iz i = some (r, off)) {x : Int32} (hdg : decode cc pc = .ok (i, 3)) (ht : (pc : Int) + off = (tgt : Int))
    (kt : ab_rel r x.toInt 0 → W p l e R s m args below meth c H locs cells slots Q (F0 m tgt ls rest)) (kf : ab_rel (ab_neg r) x.toInt 0 → W p l e R s m args below meth c H locs cells slots Q (F0 m (pc + 3) ls rest)) : W p l e R s m args below meth c H locs cells slots Q (F0 m pc ls (.int x :: rest)) := by
  have e0 : (0 : Int32).toInt = 0 := rfl
  unfold ab_iz at ho
  split at ho
  · cases ho; exact lv_if_eq hx hb hdg ht (fun h => kt (by rw [h]; rfl)) (fun h => kf (fun q => h (Int32.toInt_inj.mp (q.trans e0.symm))))
  · cases ho; exact lv_if_ne hx hb hdg ht (fun h => kt (fun q => h (Int32.toInt_inj.mp (q.trans e0.symm)))) (fun h => kf (by rw [h]; rfl))
  · cases ho; exact lv_if_lt hx hb hdg ht (fun h => kt (Int32.lt_iff_toInt_lt.mp h)) (fun h => kf (Int.not_lt.mp (fun q => h (Int32.lt_iff_toInt_lt.mpr q))))
  · cases ho; exact lv_if_ge hx hb hdg ht (fun h => kt (Int32.le_iff_toInt_le.mp h)) (fun h => kf (Int.not_le.mp (fun q => h (Int32.le_iff_toInt_le.mpr q))))
  · cases ho; exact lv_if_gt hx hb hdg ht (fun h => kt (Int32.lt_iff_toInt_lt.mp h)) (fun h => kf (Int.not_lt.mp (fun q => h (Int32.lt_iff_toInt_lt.mpr q))))
  · cases ho; exact lv_if_le hx hb hdg ht (fun h => kt (Int32.le_iff_toInt_le.mp h)) (fun h => kf (Int.not_le.mp (fun q => h (Int32.le_iff_toInt_le.mpr q))))
  · cases ho
theorem ab_rel_cmp {r : Nat} {x y : Int64} (h : ab_rel r (lg_cmp x y).toInt 0) : ab_rel r x.toInt y.toInt := by
  have e0 : (0 : Int32).toInt = 0 := rfl
  match r, h with
  | 0, h => exact Int64.toInt_inj.mpr ((lg_cmp_eq x y).mp (Int32.toInt_inj.mp (h.trans e0.symm)))
  | 1, h => exact fun q => h (by rw [(lg_cmp_eq x y).mpr (Int64.toInt_inj.mp q)]; rfl)
  | 2, h => exact Int64.lt_iff_toInt_lt.mp ((lg_cmp_lt x y).mp (Int32.lt_iff_toInt_lt.mpr h))
  | 3, h => exact Int64.le_iff_toInt_le.mp ((lg_cmp_ge x y).mp (Int32.le_iff_toInt_le.mpr h))
  | 4, h => exact Int64.lt_iff_toInt_lt.mp ((lg_cmp_gt x y).mp (Int32.lt_iff_toInt_lt.mpr h))
  | n + 5, h => exact Int64.le_iff_toInt_le.mp ((lg_cmp_le x y).mp (Int32.le_iff_toInt_le.mpr h))
end
def ab_tg (pc : Nat) (off : Int) : Option Nat := match (pc : Int) + off with
  | .ofNat n => some n
  | .negSucc _ => none
theorem ab_tg_ok {pc : Nat} {off : Int} {n : Nat} (h : ab_tg pc off = some n) : (pc : Int) + off = (n : Int) := by
  unfold ab_tg at h
  split at h
  · rename_i q
    cases h
    exact q
  · cases h
abbrev ab_SU : Type := Nat × List ab_AV × ab_BD × ab_FT
def ab_put (pc : Nat) (S : List ab_AV) (l : List (ab_BD × ab_FT)) : List ab_SU := l.map (fun q => (pc, S, q.1, q.2))
/-- both sides of a comparison of two ints -/
def ab_two (sp : Bool) (r : Nat) (tt tf : Nat) (S : List ab_AV) (B : ab_BD) (F : ab_FT) (s : Nat) (c : Int) (t : Nat) (d : Int) (ok : Bool) : List ab_SU :=
  cond ok (ab_put tt S (ab_as sp B F r s c t d) ++ ab_put tf S (ab_as sp B F (ab_neg r) s c t d)) [(tt, S, B, F), (tf, S, B, F)]
def ab_tab (sp : Bool) (pc : Nat) (S : List ab_AV) (B : ab_BD) (F : ab_FT) (s : Nat) (c : Int) : List Int → Int → Option (List ab_SU)
  | [], _ => some []
  | o :: os, k => match ab_tg pc o, ab_tab sp pc S B F s c os (k + 1) with
    | some n, some l => some (ab_put n S (ab_as sp B F 0 s c 0 k) ++ l)
    | _, _ => none
/-- what an instruction that goes somewhere leads to; nx: the instruction behind it -/
def ab_br (sp : Bool) (pc : Nat) (i : Instr) (len : Nat) (nx : Option (Instr × Nat)) (S : List ab_AV) (B : ab_BD) (F : ab_FT) : Option (List ab_SU) := match i with
  | .goto o => cond (len.beq 3) (match ab_tg pc o with | some n => some [(n, S, B, F)] | none => none) none
  | .lcmp => match S, nx with
    | (1, t, d) :: (1, s, c) :: S, some (j, 3) => match ab_iz j with
      | some (r, o) => match ab_tg (pc + 1) o with
        | some n => cond (len.beq 1) (some (ab_two sp r n (pc + 1 + 3) S B F s c t d (ab_inL B s c && ab_inL B t d))) none
        | none => none
      | none => none
    | _, _ => none
  | .ifnull o => match S with
    | a :: S => match ab_tg pc o with
      | some n => cond (len.beq 3) (match a.1 with
        | 2 => some [(pc + 3, S, B, F)]
        | 3 => some [(n, S, B, F)]
        | 4 => some [(n, S, B, F), (pc + 3, S, B, F)]
        | 5 => some [(pc + 3, S, B, F)]
        | _ => none) none
      | none => none
    | _ => none
  | .ifnonnull o => match S with
    | a :: S => match ab_tg pc o with
      | some n => cond (len.beq 3) (match a.1 with
        | 2 => some [(n, S, B, F)]
        | 3 => some [(pc + 3, S, B, F)]
        | 4 => some [(n, S, B, F), (pc + 3, S, B, F)]
        | 5 => some [(n, S, B, F)]
        | _ => none) none
      | none => none
    | _ => none
  | .if_acmp _ o => match S with
    | a :: b :: S => match ab_tg pc o with
      | some n => cond (len.beq 3 && (2 : Nat).ble a.1 && (2 : Nat).ble b.1) (some [(n, S, B, F), (pc + 3, S, B, F)]) none
      | none => none
    | _ => none
  | .tableswitch dflt lo hi offs => match S with
    | (0, s, c) :: S => match ab_tg pc dflt, ab_tab sp pc S B F s c offs.toList lo with
      | some n, some l => cond (ab_in B s c && ab_le (hi - lo + 1) (offs.size : Int) && ab_le (offs.size : Int) (hi - lo + 1)) (some (ab_put n S (ab_as sp B F 2 s c 0 lo ++ ab_as sp B F 4 s c 0 hi) ++ l)) none
      | _, _ => none
    | _ => none
  | i => match ab_ic i, S with
    | some (r, o), (0, t, d) :: (0, s, c) :: S => match ab_tg pc o with
      | some n => cond (len.beq 3) (some (ab_two sp r n (pc + 3) S B F s c t d (ab_in B s c && ab_in B t d))) none
      | none => none
    | _, _ => match ab_iz i, S with
      | some (r, o), (0, s, c) :: S => match ab_tg pc o with
        | some n => cond (len.beq 3) (some (ab_two sp r n (pc + 3) S B F s c 0 0 (ab_in B s c))) none
        | none => none
      | _, _ => none
