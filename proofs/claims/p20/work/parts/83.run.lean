/-! a method gone through: one instruction, then on till a place where a node stands -/
/-- a method: its name, its bytes, locals, the type of its answer, how many it is given (its object not counted), has it an object; the answer's form: 0 int, 1 boolean, 2 long, 3 a cell, 4 none -/
abbrev ab_MR : Type := MethodName × ByteArray × Nat × Option FieldType × Nat × Bool × Nat
/-- a call's row: the pool's number, the kind (0 plain, 2 to a nest mate), which method -/
abbrev ab_PC2 : Type := List (Nat × Nat × Nat)
/-- contracts that may be used: which method, how deep, what -/
abbrev ab_KS : Type := List (Nat × Nat × ab_CN)
abbrev ab_ND : Type := Nat × ab_AS × ab_M3
def ab_pop : Nat → List ab_AV → List ab_AV → Option (List ab_AV × List ab_AV)
  | 0, S, acc => some (acc, S)
  | n + 1, a :: S, acc => ab_pop n S (a :: acc)
  | _ + 1, [], _ => none
theorem ab_pop_ok : ∀ (n : Nat) (S acc : List ab_AV) {r : List ab_AV × List ab_AV}, ab_pop n S acc = some r → acc.reverse ++ S = r.1.reverse ++ r.2 ∧ r.1.length = n + acc.length := by
  intro n
  induction n with
  | zero => intro S acc r h; cases h; exact ⟨rfl, (Nat.zero_add _).symm⟩
  | succ n ih =>
    intro S acc r h
    cases S with
    | nil => cases h
    | cons a S =>
      obtain ⟨g1, g2⟩ := ih S (a :: acc) h
      rw [List.length_cons] at g2
      refine ⟨?_, by omega⟩
      rw [← g1, List.reverse_cons, List.append_assoc]
      rfl
/-- cells among what is given are those of the contract -/
def ab_rq : List ab_AV → List ab_AV → Bool
  | [], [] => true
  | p :: P, a :: S => p.1.beq a.1 && (match p.1 with | 2 => p.2.1.beq a.2.1 | 5 => p.2.1.beq a.2.1 | _ => true) && ab_rq P S
  | _, _ => false
/-- a row between symbols that the bounds rule out -/
def ab_nf (B : ab_BD) (F : ab_FT) : Bool := F.any (fun f => !(ab_le (ab_lo B f.1 - ab_hi B f.2.1) f.2.2))
theorem ab_nf_ok {B : ab_BD} {F : ab_FT} {ρ : Nat → Int} (hB : ab_okB B ρ) (hF : ab_okF B.length F ρ) : ab_nf B F = false := by
  rw [← Bool.not_eq_true]
  intro q
  obtain ⟨f, hf, hf2⟩ := List.any_eq_true.mp q
  obtain ⟨h1, h2, h3⟩ := hF f hf
  have b1 := hB f.1 h1
  have b2 := hB f.2.1 h2
  rw [Bool.not_eq_true'] at hf2
  have := ab_le_false.mp hf2
  omega
/-- new rows that the others rule out -/
def ab_ng (B : ab_BD) (F G : ab_FT) : Bool := G.any (fun f => !(ab_le (-f.2.2) (ab_ub B F f.2.1 f.1)))
theorem ab_ng_ok {B : ab_BD} {F G : ab_FT} {ρ : Nat → Int} (hB : ab_okB B ρ) (hF : ab_okF B.length F ρ) (hG : ∀ g ∈ G, g ∈ F) : ab_ng B F G = false := by
  rw [← Bool.not_eq_true]
  intro q
  obtain ⟨f, hf, hf2⟩ := List.any_eq_true.mp q
  obtain ⟨h1, h2, h3⟩ := hF f (hG f hf)
  have u := ab_ub_ok hB hF h2 h1
  rw [Bool.not_eq_true'] at hf2
  have := ab_le_false.mp hf2
  omega
/-- the bounds, by the rows between symbols -/
def ab_tgt : ab_FT → ab_BD → ab_BD
  | [], B => B
  | f :: F, B => ab_tgt F ((B.set f.1 (ab_lo B f.1, ab_min (ab_hi B f.1) (ab_hi B f.2.1 + f.2.2))).set f.2.1 (ab_max (ab_lo B f.2.1) (ab_lo B f.1 - f.2.2), ab_hi B f.2.1))
theorem ab_tgt_ok {ρ : Nat → Int} : ∀ (F : ab_FT) (B : ab_BD), ab_okB B ρ → ab_okF B.length F ρ → (∀ f ∈ F, f.1 ≠ f.2.1) → (ab_tgt F B).length = B.length ∧ ab_okB (ab_tgt F B) ρ := by
  intro F
  induction F with
  | nil => intro B hB _ _; exact ⟨rfl, hB⟩
  | cons f F ih =>
    intro B hB hF hne
    obtain ⟨h1, h2, h3⟩ := hF f List.mem_cons_self
    have b1 := hB f.1 h1
    have b2 := hB f.2.1 h2
    have c1 : ab_lo B f.1 ≤ ρ f.1 ∧ ρ f.1 ≤ ab_min (ab_hi B f.1) (ab_hi B f.2.1 + f.2.2) := ⟨b1.1, ab_le_min b1.2 (by omega)⟩
    have c2 : ab_max (ab_lo B f.2.1) (ab_lo B f.1 - f.2.2) ≤ ρ f.2.1 ∧ ρ f.2.1 ≤ ab_hi B f.2.1 := ⟨ab_max_le b2.1 (by omega), b2.2⟩
    have hl : ((B.set f.1 (ab_lo B f.1, ab_min (ab_hi B f.1) (ab_hi B f.2.1 + f.2.2))).set f.2.1 (ab_max (ab_lo B f.2.1) (ab_lo B f.1 - f.2.2), ab_hi B f.2.1)).length = B.length := by rw [List.length_set, List.length_set]
    obtain ⟨g1, g2⟩ := ih _ (ab_okB_set (ab_okB_set hB f.1 (fun _ => c1)) f.2.1 (fun _ => c2)) (by rw [hl]; exact fun g hg => hF g (List.mem_cons_of_mem _ hg)) (fun g hg => hne g (List.mem_cons_of_mem _ hg))
    exact ⟨g1.trans hl, g2⟩
def ab_tr1 (T : ab_RG) (q : Nat × Nat × ab_CN) (lev mn : Nat) (as rest : List ab_AV) (L : ab_LS) (B : ab_BD) (F : ab_FT) (Dl : ab_DL) (M : ab_ML) : Option (List ab_AS) :=
  cond (q.1.beq mn && (q.2.1 + 1).ble lev && ab_rq q.2.2.1 as)
    (match ab_mat T q.2.2.2.2.2.1 B Dl with
      | some (B1, D1) => cond (ab_vf (ab_gs 1 [] q.2.2.1 q.2.2.2.1 q.2.2.2.2.2.1 [] as D1) [] q.2.2.1 q.2.2.2.1 q.2.2.2.2.1 q.2.2.2.2.2.1 [] [] as B1 F D1 [])
        (some (q.2.2.2.2.2.2.filterMap (fun o =>
          let r := ab_af (ab_gs 1 [] q.2.2.1 q.2.2.2.1 q.2.2.2.2.2.1 [] as D1) q.2.2.2.1.length o B1 F D1 M
          cond (ab_no r.2.1 || ab_nf r.2.1 r.2.2.1 || ab_ng r.2.1 r.2.2.1 (r.2.2.1.take o.2.2.1.length)) none (some (L, r.1 ++ rest, r.2.1, r.2.2.1, r.2.2.2.1, r.2.2.2.2))))) none
      | none => none)
    none
def ab_try (T : ab_RG) (lev mn : Nat) (as rest : List ab_AV) (L : ab_LS) (B : ab_BD) (F : ab_FT) (Dl : ab_DL) (M : ab_ML) : ab_KS → Option (List ab_AS)
  | [] => none
  | q :: KS => match ab_tr1 T q lev mn as rest L B F Dl M with
    | some l => some l
    | none => ab_try T lev mn as rest L B F Dl M KS
theorem ab_try_ok {T : ab_RG} {lev mn : Nat} {as rest : List ab_AV} {L : ab_LS} {B : ab_BD} {F : ab_FT} {Dl : ab_DL} {M : ab_ML} : ∀ {KS : ab_KS} {l : List ab_AS}, ab_try T lev mn as rest L B F Dl M KS = some l → ∃ q ∈ KS, ab_tr1 T q lev mn as rest L B F Dl M = some l := by
  intro KS
  induction KS with
  | nil => intro l h; cases h
  | cons q KS ih =>
    intro l h
    unfold ab_try at h
    split at h
    · rename_i l9 hl9
      cases h
      exact ⟨q, List.mem_cons_self, hl9⟩
    · obtain ⟨q9, g1, g2⟩ := ih h
      exact ⟨q9, List.mem_cons_of_mem _ g1, g2⟩
/-- a call: the instruction's form (0 with an object, 1 without), the pool's number -/
def ab_iv (i : Instr) : Option (Bool × Nat) := match i with
  | .invokevirtual x => some (true, x)
  | .invokestatic x => some (false, x)
  | _ => none
def ab_cl (T : ab_RG) (MT : List ab_MR) (PM : ab_PC2) (KS : ab_KS) (lev : Nat) (i : Instr) (len : Nat) (X : ab_AS) : Option (List ab_AS) := match ab_iv i with
  | some (ob, x) => match PM.find? (fun q => q.1.beq x) with
    | some q => match MT[q.2.2]? with
      | some mr => match ab_pop (mr.2.2.2.2.1 + cond ob 1 0) X.2.1 [] with
        | some (as, rest) => cond (len.beq 3 && (mr.2.2.2.2.2.1 == ob) && (ab_cat rest).ble 8 && mr.2.2.1.ble 21)
          (ab_try T lev q.2.2 as rest X.1 X.2.2.1 X.2.2.2.1 X.2.2.2.2.1 X.2.2.2.2.2 KS) none
        | none => none
      | none => none
    | none => none
  | none => none
/-- the first n0 symbols are as at the start -/
def ab_rid : Nat → Nat → ab_TH → Bool
  | 0, _, _ => true
  | n + 1, i, q :: θ => q.1.beq i && ab_ieq q.2 0 && ab_rid n (i + 1) θ
  | _ + 1, _, [] => false
theorem ab_rid_ok {ρ : Nat → Int} : ∀ (n i : Nat) (θ : ab_TH), ab_rid n i θ = true → n ≤ θ.length ∧ ∀ j, j < n → ab_thv θ ρ j = ρ (i + j) := by
  intro n
  induction n with
  | zero => intro i θ _; exact ⟨Nat.zero_le _, fun j hj => absurd hj (Nat.not_lt_zero _)⟩
  | succ n ih =>
    intro i θ h
    cases θ with
    | nil => cases h
    | cons q θ =>
      unfold ab_rid at h
      rw [Bool.and_eq_true, Bool.and_eq_true] at h
      have h1 := ab_beq h.1.1
      have h2 := ab_ieq_ok h.1.2
      obtain ⟨g1, g2⟩ := ih (i + 1) θ h.2
      refine ⟨by rw [List.length_cons]; omega, fun j hj => ?_⟩
      cases j with
      | zero => show ρ q.1 + q.2 = ρ (i + 0); rw [h1, h2, Int.add_zero]; rfl
      | succ j =>
        have e : ab_thv (q :: θ) ρ (j + 1) = ab_thv θ ρ j := rfl
        rw [e, g2 j (by omega)]
        congr 1
        omega
/-- an end that this return meets -/
def ab_en (T : ab_RG) (n0 : Nat) (X : ab_AS) (o : ab_OU) : Bool := match ab_mat T o.2.2.2.1 X.2.2.1 X.2.2.2.2.1 with
  | some (B1, D1) =>
    let θ := ab_gs n0 [] o.1 o.2.1 o.2.2.2.1 [] X.2.1 D1
    ab_vf θ [] o.1 o.2.1 o.2.2.1 o.2.2.2.1 o.2.2.2.2 [] X.2.1 B1 X.2.2.2.1 D1 X.2.2.2.2.2 && ab_rid n0 0 θ
  | none => false
def ab_rk (rk : Nat) (B : ab_BD) (i : Instr) (S : List ab_AV) : Bool := match i, S with
  | .ireturn, [(0, s, c)] => rk.beq 0 || (rk.beq 1 && ab_fit B 3 s c)
  | .lreturn, [(1, _, _)] => rk.beq 2
  | .areturn, [a] => rk.beq 3 && (2 : Nat).ble a.1
  | .return_, [] => rk.beq 4
  | _, _ => false
def ab_rt (T : ab_RG) (n0 : Nat) (os : List ab_OU) (rk : Nat) (i : Instr) (len : Nat) (X : ab_AS) : Bool :=
  len.beq 1 && ab_rk rk X.2.2.1 i X.2.1 && os.any (ab_en T n0 X)
/-- the law's own script: cell 999 of those that never change, its length the symbol 1 -/
def ab_sx (sc : Nat) (i : Instr) (len : Nat) (S : List ab_AV) (B : ab_BD) (F : ab_FT) (Dl : ab_DL) (M : ab_ML) : Option (List ab_AV × ab_BD × ab_DL) := match i with
  | .iaload => match S with
    | (0, s, c) :: (5, k, _) :: S => cond (len.beq 1 && sc.beq 1 && k.beq 999 && ab_le 0 (ab_lo B s + c) && ab_in B s c && ab_le (ab_ub B F s 1 + c) (-1))
      (match cond (ab_le 0 c && ab_le c 999 && M.all (fun q => !(q.1.beq 140))) (some (2000000 + 1000 * s + c.toNat)) none with
        | some j => (match ab_dk Dl 140 j with
          | some q => some ((0, q.1, q.2) :: S, B, Dl)
          | none => some ((0, B.length, 0) :: S, B ++ [(-2147483648, 2147483647)], ((140, j), (B.length, 0)) :: Dl))
        | none => some ((0, B.length, 0) :: S, B ++ [(-2147483648, 2147483647)], Dl)) none
    | _ => none
  | .arraylength => match S with
    | (5, k, _) :: S => cond (len.beq 1 && sc.beq 1 && k.beq 999) (some ((0, 1, 0) :: S, B, Dl)) none
    | _ => none
  | _ => none
/-- a method's instructions, decoded: parts of sixteen bytes, in each (place, instruction, length, which rows read it) -/
abbrev ab_DT : Type := List (List (Nat × Instr × Nat × Nat))
def ab_dl : List (Nat × Instr × Nat × Nat) → Nat → Option (Instr × Nat × Nat)
  | [], _ => none
  | e :: l, pc => cond (e.1.beq pc) (some e.2) (ab_dl l pc)
def ab_dec (dt : ab_DT) (pc : Nat) : Option (Instr × Nat × Nat) := match dt[pc / 16]? with
  | some l => ab_dl l pc
  | none => none
def ab_dte (cc : ByteArray) (e : Nat × Instr × Nat × Nat) : Bool := match decode cc e.1 with
  | .ok q => decide (q.1 = e.2.1) && q.2.beq e.2.2.1
  | .error _ => false
def ab_dtok (cc : ByteArray) (dt : ab_DT) : Bool := dt.all (fun l => l.all (ab_dte cc))
theorem ab_dl_ok {cc : ByteArray} : ∀ {l : List (Nat × Instr × Nat × Nat)} {pc : Nat} {q : Instr × Nat × Nat}, l.all (ab_dte cc) = true → ab_dl l pc = some q → decode cc pc = .ok (q.1, q.2.1) := by
  intro l
  induction l with
  | nil => intro pc q _ h; cases h
  | cons e l ih =>
    intro pc q hl h
    rw [List.all_cons, Bool.and_eq_true] at hl
    unfold ab_dl at h
    cases hc : e.1.beq pc with
    | true =>
      rw [hc] at h
      cases h
      have h1 := Nat.eq_of_beq_eq_true hc
      have h2 := hl.1
      unfold ab_dte at h2
      rw [h1] at h2
      split at h2
      · rename_i q9 hq9
        rw [Bool.and_eq_true, decide_eq_true_eq] at h2
        rw [hq9, ← h2.1, ← ab_beq h2.2]
      · cases h2
    | false => rw [hc] at h; exact ih hl.2 h
theorem ab_dec_ok {cc : ByteArray} {dt : ab_DT} {pc : Nat} {q : Instr × Nat × Nat} (hd : ab_dtok cc dt = true) (h : ab_dec dt pc = some q) : decode cc pc = .ok (q.1, q.2.1) := by
  unfold ab_dec at h
  split at h
  · rename_i l hl
    exact ab_dl_ok (List.all_eq_true.mp hd l (List.mem_of_getElem? hl)) h
  · cases h
/-- one instruction; sc: 1 where the law's own script may be read -/
def ab_st (cl : List vw_C) (T : ab_RG) (C : ab_CT) (sh : List ab_SP) (MT : List ab_MR) (KI KJ : List (Nat × Int)) (PF : ab_PT) (kd : ab_KD) (PS : ab_PS) (PM : ab_PC2) (KS : ab_KS) (lev sc : Nat) (dt : ab_DT) (nL n0 : Nat) (os : List ab_OU) (rk : Nat) (sp : List Nat) (pc : Nat) (X : ab_AS) : Option (List (Nat × ab_AS)) :=
  match ab_dec dt pc with
  | some (i, len, h) => match h with
    | 0 => (match ab_pu KI KJ nL i len X.1 X.2.1 X.2.2.1 X.2.2.2.1 with
      | some r => some [(pc + len, (r.1, r.2.1, r.2.2.1, r.2.2.2, X.2.2.2.2))]
      | none => none)
    | 1 => (match ab_hp cl T C sh PF i len X.2.1 X.2.2.1 X.2.2.2.1 X.2.2.2.2.1 X.2.2.2.2.2 with
      | some r => some [(pc + len, (X.1, r.1, r.2.1, X.2.2.2.1, r.2.2.1, r.2.2.2))]
      | none => (match ab_ks kd PS i len X.2.1 X.2.2.1 with
        | some r => some [(pc + len, (X.1, r.1, r.2, X.2.2.2))]
        | none => (match ab_sx sc i len X.2.1 X.2.2.1 X.2.2.2.1 X.2.2.2.2.1 X.2.2.2.2.2 with
          | some r => some [(pc + len, (X.1, r.1, r.2.1, X.2.2.2.1, r.2.2, X.2.2.2.2.2))]
          | none => none)))
    | 2 => (match ab_br (sp.any (fun x => x.beq pc)) pc i len (match ab_dec dt (pc + 1) with | some q => some (q.1, q.2.1) | none => none) X.2.1 X.2.2.1 X.2.2.2.1 with
      | some l => some (l.map (fun q => (q.1, (X.1, q.2.1, q.2.2.1, q.2.2.2, X.2.2.2.2))))
      | none => none)
    | 3 => (match ab_cl T MT PM KS lev i len X with
      | some l => some (l.map (fun x => (pc + 3, x)))
      | none => (match ab_mo (sp.any (fun x => x.beq pc)) PS lev pc i len X.2.1 X.2.2.1 X.2.2.2.1 with
        | some l => some (l.map (fun q => (q.1, (X.1, q.2.1, q.2.2.1, q.2.2.2, X.2.2.2.2))))
        | none => none))
    | 4 => (match ab_ks kd PS i len X.2.1 X.2.2.1 with
      | some r => some [(pc + len, (X.1, r.1, r.2, X.2.2.2))]
      | none => none)
    | 5 => (match ab_mo (sp.any (fun x => x.beq pc)) PS lev pc i len X.2.1 X.2.2.1 X.2.2.2.1 with
      | some l => some (l.map (fun q => (q.1, (X.1, q.2.1, q.2.2.1, q.2.2.2, X.2.2.2.2))))
      | none => none)
    | _ => cond (ab_rt T n0 os rk i len X) (some []) none
  | none => none
/-- a node is met -/
def ab_hit0 (T : ab_RG) (n0 : Nat) (X : ab_AS) (nd : ab_ND) : Option (ab_BD × ab_TH) := match ab_mat T nd.2.1.2.2.2.2.1 X.2.2.1 X.2.2.2.2.1 with
  | some (B1, D1) =>
    cond (ab_vf (ab_gs n0 nd.2.1.1 nd.2.1.2.1 nd.2.1.2.2.1 nd.2.1.2.2.2.2.1 X.1 X.2.1 D1) nd.2.1.1 nd.2.1.2.1 nd.2.1.2.2.1 nd.2.1.2.2.2.1 nd.2.1.2.2.2.2.1 nd.2.1.2.2.2.2.2 X.1 X.2.1 B1 X.2.2.2.1 D1 X.2.2.2.2.2 && ab_rid n0 0 (ab_gs n0 nd.2.1.1 nd.2.1.2.1 nd.2.1.2.2.1 nd.2.1.2.2.2.2.1 X.1 X.2.1 D1))
      (some (B1, ab_gs n0 nd.2.1.1 nd.2.1.2.1 nd.2.1.2.2.1 nd.2.1.2.2.2.2.1 X.1 X.2.1 D1)) none
  | none => none
/-- .. its measure lower -/
def ab_hit (T : ab_RG) (n0 : Nat) (mu : ab_M3) (X : ab_AS) (nd : ab_ND) : Bool := match ab_hit0 T n0 X nd with
  | some (B1, θ) => (ab_mok θ.length nd.2.2.1 && ab_mok θ.length nd.2.2.2.1 && ab_mok θ.length nd.2.2.2.2) && ab_fall B1 X.2.2.2.1 (ab_msb θ nd.2.2.1, ab_msb θ nd.2.2.2.1, ab_msb θ nd.2.2.2.2) mu
  | none => false
/-- .. as a way out -/
def ab_hitE (T : ab_RG) (n0 : Nat) (X : ab_AS) (nd : ab_ND) : Bool := match ab_hit0 T n0 X nd with
  | some _ => true
  | none => false
/-- a symbol taken for a number -/
def ab_c1 (s : Nat) (v : Int) (a : ab_AV) : ab_AV := match a.1 with
  | 2 => a
  | 3 => a
  | 0 => cond (a.2.1.beq s) (0, 0, v + a.2.2) a
  | 1 => cond (a.2.1.beq s) (1, 0, v + a.2.2) a
  | 4 => cond (a.2.1.beq s) (4, 0, v + a.2.2) a
  | _ => a
def ab_cX (s : Nat) (v : Int) (X : ab_AS) : ab_AS := (X.1.map (fun q => (q.1, ab_c1 s v q.2)), X.2.1.map (ab_c1 s v), X.2.2.1.set s (v, v), X.2.2.2.1, X.2.2.2.2.1.map (fun d => cond (d.2.1.beq s) (d.1, (0, v + d.2.2)) d), X.2.2.2.2.2)
def ab_vs (s : Nat) (X : ab_AS) : Nat → Int → List ab_AS
  | 0, _ => []
  | n + 1, v => ab_cX s v X :: ab_vs s X n (v + 1)
/-- the numbers of a symbol, one by one -/
def ab_spl (s : Nat) (X : ab_AS) : List ab_AS := cond (s.beq 0 || !((s + 1).ble X.2.2.1.length)) [X] (ab_vs s X (ab_hi X.2.2.1 s - ab_lo X.2.2.1 s + 1).toNat (ab_lo X.2.2.1 s))
/-- the numbers of the world that no cell shows -/
def ab_GC : Nat := 130
/-- what is done at a place of the code ahead of its instruction: 0 a local's numbers one by one, 1 a place's, 2 a clause used, 3 a hidden place set, 4 a hidden place raised -/
abbrev ab_HT : Type := Nat × Nat × Nat × Int
/-- an atom taken as given -/
def ab_ua (X : ab_AS) (B : ab_BD) (Dl : ab_DL) (a : ab_AT) : List ab_AS := match ab_pd Dl a.1, ab_pd Dl a.2.1 with
  | some s, some t => (match ab_asm B X.2.2.2.1 s.1 t.1 (a.2.2 - s.2 + t.2) with
    | some r => [(X.1, X.2.1, r.1, r.2, Dl, X.2.2.2.2.2)]
    | none => [])
  | _, _ => [(X.1, X.2.1, B, X.2.2.2.1, Dl, X.2.2.2.2.2)]
/-- the places that a clause speaks of -/
def ab_qp (q : List ab_AT) : ab_DL := (q.flatMap (fun a => [a.1, a.2.1])).filterMap (fun p => cond (p.1.beq 1000) none (some (p, (0, 0))))
/-- rows behind one another, from the symbol a on -/
def ab_chn (a : Nat) (F : ab_FT) : ab_FT := (F.filter (fun f => f.1.beq a && !(f.2.1.beq a))).flatMap (fun f => (F.filter (fun g => g.1.beq f.2.1 && !(g.2.1.beq a))).map (fun g => (a, g.2.1, f.2.2 + g.2.2)))
theorem ab_chn_ok {a n : Nat} {F : ab_FT} {ρ : Nat → Int} (hF : ab_okF n F ρ) : ab_okF n (ab_chn a F ++ F) ρ := by
  intro f hf
  rcases List.mem_append.mp hf with hf | hf
  · obtain ⟨x, hx, hx2⟩ := List.mem_flatMap.mp hf
    obtain ⟨y, hy, rfl⟩ := List.mem_map.mp hx2
    obtain ⟨x1, x2⟩ := List.mem_filter.mp hx
    obtain ⟨y1, y2⟩ := List.mem_filter.mp hy
    rw [Bool.and_eq_true] at x2 y2
    have e1 := Nat.eq_of_beq_eq_true x2.1
    have e2 := Nat.eq_of_beq_eq_true y2.1
    obtain ⟨a1, a2, a3⟩ := hF x x1
    obtain ⟨b1, b2, b3⟩ := hF y y1
    refine ⟨by show a < n; omega, b2, ?_⟩
    show ρ a - ρ y.2.1 ≤ x.2.2 + y.2.2
    rw [e1] at a3
    rw [e2] at b3
    omega
  · exact hF f hf
/-- the numbers of a symbol in parts of c -/
def ab_ivs (s : Nat) (X : ab_AS) (c : Int) : Nat → Int → List ab_AS
  | 0, _ => []
  | n + 1, v => (X.1, X.2.1, X.2.2.1.set s (ab_max (ab_lo X.2.2.1 s) v, ab_min (ab_hi X.2.2.1 s) (v + c - 1)), X.2.2.2) :: ab_ivs s X c n (v + c)
theorem ab_ivs_in {s : Nat} {X : ab_AS} {c : Int} (hc : 1 ≤ c) : ∀ (n : Nat) (v x : Int), v ≤ x → x < v + n * c → ∃ w : Int, w ≤ x ∧ x ≤ w + c - 1 ∧ (X.1, X.2.1, X.2.2.1.set s (ab_max (ab_lo X.2.2.1 s) w, ab_min (ab_hi X.2.2.1 s) (w + c - 1)), X.2.2.2) ∈ ab_ivs s X c n v := by
  intro n
  induction n with
  | zero => intro v x h1 h2; exact absurd h2 (by simp; omega)
  | succ n ih =>
    intro v x h1 h2
    by_cases h : x ≤ v + c - 1
    · exact ⟨v, h1, h, List.mem_cons_self⟩
    · obtain ⟨w, a1, a2, a3⟩ := ih (v + c) x (by omega) (by
        have e : ((n + 1 : Nat) : Int) * c = n * c + c := by rw [Int.natCast_add, Int.add_mul]; simp
        rw [e] at h2
        omega)
      exact ⟨w, a1, a2, List.mem_cons_of_mem _ a3⟩
/-- a clause by its number: 1000 times the part's, and that in it -/
def ab_cq (row : ab_CR) (i : Nat) : Option (List ab_AT) := match row[i / 1000]? with
  | some z => z.2.2[i % 1000]?
  | none => none
theorem ab_cq_in {row : ab_CR} {i : Nat} {q : List ab_AT} (h : ab_cq row i = some q) : ∃ z ∈ row, q ∈ z.2.2 := by
  unfold ab_cq at h
  split at h
  · rename_i z hz
    exact ⟨z, List.mem_of_getElem? hz, List.mem_of_getElem? h⟩
  · cases h
/-- a clause used -/
def ab_hu (T : ab_RG) (C : ab_CT) (k i : Nat) (X : ab_AS) : Option (List ab_AS) := match C[k]? with
  | some row => (match ab_cq row i with
    | some q => (match ab_mat T (ab_qp q) X.2.2.1 X.2.2.2.2.1 with
      | some (B, Dl) => some (cond (q.any (ab_atk B X.2.2.2.1 Dl)) [(X.1, X.2.1, B, X.2.2.2.1, Dl, X.2.2.2.2.2)] (q.flatMap (ab_ua X B Dl)))
      | none => none)
    | none => none)
  | none => none
/-- the number of a local (below 1000), on the stack (below 2000), at a place of the row 93, where it is one number -/
def ab_h6 (src : Nat) (X : ab_AS) : Option Int := cond (src.ble 1999) (match cond (src.ble 999) (ab_lk X.1 src) (X.2.1[src - 1000]?) with
  | some (0, s, c) => cond (s.beq 0) (some c) none
  | _ => none) (match ab_dk X.2.2.2.2.1 93 (src - 2000) with
  | some q => cond (q.1.beq 0) (some q.2) none
  | none => none)
def ab_h10 (i : Nat) (c : Int) (X : ab_AS) : Option (List ab_AS) := match ab_lk X.1 i with
  | some (0, s, _) => cond ((s + 1).ble X.2.2.1.length && ab_le 1 c) (some (ab_ivs s X c ((ab_hi X.2.2.1 s - ab_lo X.2.2.1 s).toNat / c.toNat + 1) (ab_lo X.2.2.1 s))) none
  | _ => none
def ab_h1 (T : ab_RG) (C : ab_CT) (sh : List ab_SP) (h : ab_HT) (X : ab_AS) : Option (List ab_AS) := match h with
  | (0, i, _, _) => (match ab_lk X.1 i with
    | some (0, s, _) => some (ab_spl s X)
    | some (1, s, _) => some (ab_spl s X)
    | _ => none)
  | (1, k, j, _) => (match ab_get T k j j 0 X.2.2.1 X.2.2.2.2.1 with
    | some (q, B, Dl) => some (ab_spl q.1 (X.1, X.2.1, B, X.2.2.2.1, Dl, X.2.2.2.2.2))
    | none => none)
  | (2, k, i, _) => ab_hu T C k i X
  | (3, j, _, c) => cond (sh.length.ble 130) (match ab_set T C ab_GC j j 0 c X.2.2.1 X.2.2.2.1 X.2.2.2.2.1 X.2.2.2.2.2 with
    | some (Dl, M) => some [(X.1, X.2.1, X.2.2.1, X.2.2.2.1, Dl, M)]
    | none => none) none
  | (4, j, _, c) => cond (sh.length.ble 130) (match ab_get T ab_GC j j 0 X.2.2.1 X.2.2.2.2.1 with
    | some (q, B, Dl) => (match ab_set T C ab_GC j j q.1 (q.2 + c) B X.2.2.2.1 Dl X.2.2.2.2.2 with
      | some (Dl2, M) => some [(X.1, X.2.1, B, X.2.2.2.1, Dl2, M)]
      | none => none)
    | none => none) none
  | (5, _, _, _) => cond (X.2.2.2.1.all (fun f => !(f.1.beq f.2.1))) (some (cond (ab_no (ab_tgt X.2.2.2.1 X.2.2.1)) [] [(X.1, X.2.1, ab_tgt X.2.2.2.1 X.2.2.1, X.2.2.2.1, X.2.2.2.2)])) none
  | (6, k, src, c) => (match ab_h6 src X with
    | some v => ab_hu T C k (c + v).toNat X
    | none => some [X])
  | (7, i, _, _) => (match X.2.1[i]? with
    | some (0, s, _) => some (ab_spl s X)
    | some (1, s, _) => some (ab_spl s X)
    | _ => none)
  | (10, i, _, c) => ab_h10 i c X
  | (9, a, _, _) => some [(X.1, X.2.1, X.2.2.1, ab_chn a X.2.2.2.1 ++ X.2.2.2.1, X.2.2.2.2)]
  | _ => none
/-- one after another -/
def ab_cat2 (f : ab_AS → Option (List ab_AS)) : List ab_AS → Option (List ab_AS)
  | [] => some []
  | x :: l => match f x, ab_cat2 f l with
    | some a, some b => some (a ++ b)
    | _, _ => none
def ab_hs (T : ab_RG) (C : ab_CT) (sh : List ab_SP) : List ab_HT → ab_AS → Option (List ab_AS)
  | [], X => some [X]
  | h :: hs, X => match ab_h1 T C sh h X with
    | some l => ab_cat2 (ab_hs T C sh hs) l
    | none => none
abbrev ab_HH : Type := List (Nat × List ab_HT)
def ab_hx (T : ab_RG) (C : ab_CT) (sh : List ab_SP) (HN : ab_HH) (pc : Nat) (X : ab_AS) : Option (List ab_AS) := match HN.find? (fun h => h.1.beq pc) with
  | some h => ab_hs T C sh h.2 X
  | none => some [X]
def ab_run (cl : List vw_C) (T : ab_RG) (C : ab_CT) (sh : List ab_SP) (MT : List ab_MR) (KI KJ : List (Nat × Int)) (PF : ab_PT) (kd : ab_KD) (PS : ab_PS) (PM : ab_PC2) (KS : ab_KS) (lev sc : Nat) (dt : ab_DT) (nL n0 : Nat) (os : List ab_OU) (rk : Nat) (sp HD : List Nat) (HN : ab_HH) (EX NS : List ab_ND) (mu : ab_M3) : Nat → Nat → ab_AS → Bool
  | 0, _, _ => false
  | f + 1, pc, X => cond (HD.any (fun h => h.beq pc))
    (EX.any (fun nd => nd.1.beq pc && ab_hitE T n0 X nd) || NS.any (fun nd => nd.1.beq pc && ab_hit T n0 mu X nd) ||
    (match ab_hx T C sh HN pc X with
    | some xs => xs.all (fun X' => match ab_st cl T C sh MT KI KJ PF kd PS PM KS lev sc dt nL n0 os rk sp pc X' with
      | some l => l.all (fun q => ab_run cl T C sh MT KI KJ PF kd PS PM KS lev sc dt nL n0 os rk sp HD HN EX NS mu f q.1 q.2)
      | none => false)
    | none => false))
    (match ab_st cl T C sh MT KI KJ PF kd PS PM KS lev sc dt nL n0 os rk sp pc X with
      | some l => l.all (fun q => ab_run cl T C sh MT KI KJ PF kd PS PM KS lev sc dt nL n0 os rk sp HD HN EX NS mu f q.1 q.2)
      | none => false)
/-- a node: one instruction, then on -/
def ab_cn (cl : List vw_C) (T : ab_RG) (C : ab_CT) (sh : List ab_SP) (MT : List ab_MR) (KI KJ : List (Nat × Int)) (PF : ab_PT) (kd : ab_KD) (PS : ab_PS) (PM : ab_PC2) (KS : ab_KS) (lev sc : Nat) (dt : ab_DT) (nL n0 : Nat) (os : List ab_OU) (rk : Nat) (sp HD : List Nat) (HN : ab_HH) (EX NS : List ab_ND) (fuel : Nat) (nd : ab_ND) : Bool :=
  ab_mok nd.2.1.2.2.1.length nd.2.2.1 && ab_mok nd.2.1.2.2.1.length nd.2.2.2.1 && ab_mok nd.2.1.2.2.1.length nd.2.2.2.2 &&
  (match ab_hx T C sh HN nd.1 nd.2.1 with
  | some xs => xs.all (fun X' => match ab_st cl T C sh MT KI KJ PF kd PS PM KS lev sc dt nL n0 os rk sp nd.1 X' with
    | some l => l.all (fun q => ab_run cl T C sh MT KI KJ PF kd PS PM KS lev sc dt nL n0 os rk sp HD HN EX NS nd.2.2 fuel q.1 q.2)
    | none => false)
  | none => false)
