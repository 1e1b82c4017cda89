/-! what a studio's text tells, read by itself: over a state A in the places of the class's reader (49: how many, 'from'; 50 pitches, 51 lengths, 52 how many notes, 54 clues' sets, 55 known, 56 dares, 57..59 names, 64 and (48, 3), (48, 4) what was told) -/
abbrev tk_E : Type := (Nat → Int) × Nat × Int
def tk (e : tk_E) (p : Nat) : tk_T := tk_tok e.1 e.2.1 e.2.2 p
def tn (e : tk_E) (p : Nat) : Nat := (tk e p).2.2.1
/-- which word that no name may be (-1: none) -/
def tw (e : tk_E) (p : Nat) : Int := if (tk e p).1 = 2 then kw_of 17 (tk e p).2.2.2.1 (-1) else -1
/-- a fault (0: none), the state, where -/
abbrev pr_R : Type := Int × ab_SG × Nat
def pr_nm (e : tk_E) (p : Nat) (a b : Int) : Int := if (tk e p).1 = 3 then (if a ≤ (tk e p).2.2.2.2 ∧ (tk e p).2.2.2.2 ≤ b then 0 else 2) else 1
def pr_wd (e : tk_E) (p : Nat) : Int := (tk e p).2.2.2.1
def pr_ix (A : ab_SG) (e : tk_E) (k : Nat) (n : Int) (p : Nat) : Int := rw_fd (A k) (pr_wd e p) n.toNat 0
def pr_sk (A : ab_SG) (e : tk_E) (k : Nat) (n : Int) (p : Nat) : Int := if (tk e p).1 = 2 ∧ tw e p < 0 then (if pr_ix A e k n p < 0 then 3 else 0) else 1
def pr_new (A : ab_SG) (e : tk_E) (p : Nat) : Int := if (tk e p).1 = 2 ∧ tw e p < 0 then (if 0 ≤ pr_ix A e 57 (A 49 11) p ∨ 0 ≤ pr_ix A e 58 (A 49 12) p ∨ 0 ≤ pr_ix A e 59 (A 49 13) p then 3 else 0) else 1
def pr_hs (s x : Int) : Bool := decide (fw_c (fw_op 8 (fw_op 6 s x) 1) = 1)
def pr_note (A : ab_SG) (e : tk_E) (x : Int) (p : Nat) : pr_R :=
  if pr_nm e p 0 24 ≠ 0 then (pr_nm e p 0 24, A, p)
  else if 9 ≤ A 52 x.toNat then (4, A, p)
  else if pr_nm e (tn e p) 1 9 ≠ 0 then (pr_nm e (tn e p) 1 9, A, tn e p)
  else (0, ab_ups (ab_ups (ab_ups A 50 (x * 9 + A 52 x.toNat).toNat (tk e p).2.2.2.2) 51 (x * 9 + A 52 x.toNat).toNat (tk e (tn e p)).2.2.2.2) 52 x.toNat (A 52 x.toNat + 1), tn e (tn e p))
def pr_notes (e : tk_E) (x : Int) : Nat → ab_SG → Nat → pr_R
  | 0, A, p => (0, A, p)
  | f + 1, A, p => if (tk e p).1 ≠ 3 then (0, A, p) else if (pr_note A e x p).1 ≠ 0 then pr_note A e x p else pr_notes e x f (pr_note A e x p).2.1 (pr_note A e x p).2.2
def pr_tune (A : ab_SG) (e : tk_E) (p : Nat) : pr_R :=
  if 9 ≤ A 49 11 then (4, A, p)
  else if pr_new A e (tn e p) ≠ 0 then (pr_new A e (tn e p), A, tn e p)
  else let A1 := ab_ups (ab_ups (ab_ups A 57 (A 49 11).toNat (pr_wd e (tn e p))) 52 (A 49 11).toNat 0) 49 11 (A 49 11 + 1)
    let r := pr_note A1 e (A 49 11) (tn e (tn e p))
    if r.1 ≠ 0 then r else pr_notes e (A 49 11) 9 r.2.1 r.2.2
def pr_left (A : ab_SG) (e : tk_E) (c : Int) (p : Nat) : pr_R :=
  if pr_sk A e 57 (A 49 11) p ≠ 0 then (pr_sk A e 57 (A 49 11) p, A, p)
  else if pr_hs (A 54 c.toNat) (pr_ix A e 57 (A 49 11) p) then (3, A, p)
  else (0, ab_ups A 54 c.toNat (pr_or (A 54 c.toNat) (pr_ix A e 57 (A 49 11) p)), tn e p)
def pr_lefts (e : tk_E) (c : Int) : Nat → ab_SG → Nat → pr_R
  | 0, A, p => (0, A, p)
  | f + 1, A, p => if (tk e p).1 ≠ 2 then (0, A, p) else if (pr_left A e c p).1 ≠ 0 then pr_left A e c p else pr_lefts e c f (pr_left A e c p).2.1 (pr_left A e c p).2.2
def pr_clue (A : ab_SG) (e : tk_E) (p : Nat) : pr_R :=
  if 6 ≤ A 49 12 then (4, A, p)
  else if pr_new A e (tn e p) ≠ 0 then (pr_new A e (tn e p), A, tn e p)
  else let A1 := ab_ups (ab_ups (ab_ups A 58 (A 49 12).toNat (pr_wd e (tn e p))) 54 (A 49 12).toNat 0) 49 12 (A 49 12 + 1)
    let r := pr_left A1 e (A 49 12) (tn e (tn e p))
    if r.1 ≠ 0 then r else pr_lefts e (A 49 12) 9 r.2.1 r.2.2
def pr_person (A : ab_SG) (e : tk_E) (p : Nat) : pr_R :=
  if 5 ≤ A 49 13 then (4, A, p)
  else if pr_new A e (tn e p) ≠ 0 then (pr_new A e (tn e p), A, tn e p)
  else (0, ab_ups (ab_ups A 59 (A 49 13).toNat (pr_wd e (tn e p))) 49 13 (A 49 13 + 1), tn e (tn e p))
def pr_knows (A : ab_SG) (e : tk_E) (p : Nat) : pr_R :=
  if pr_sk A e 59 (A 49 13) (tn e p) ≠ 0 then (pr_sk A e 59 (A 49 13) (tn e p), A, tn e p)
  else if pr_sk A e 57 (A 49 11) (tn e (tn e p)) ≠ 0 then (pr_sk A e 57 (A 49 11) (tn e (tn e p)), A, tn e (tn e p))
  else if pr_hs (A 64 (pr_ix A e 59 (A 49 13) (tn e p)).toNat) (pr_ix A e 57 (A 49 11) (tn e (tn e p))) then (3, A, tn e (tn e p))
  else if pr_nm e (tn e (tn e (tn e p))) 0 9 ≠ 0 then (pr_nm e (tn e (tn e (tn e p))) 0 9, A, tn e (tn e (tn e p)))
  else (0, ab_ups (ab_ups A 64 (pr_ix A e 59 (A 49 13) (tn e p)).toNat (pr_or (A 64 (pr_ix A e 59 (A 49 13) (tn e p)).toNat) (pr_ix A e 57 (A 49 11) (tn e (tn e p))))) 55 (pr_ix A e 59 (A 49 13) (tn e p) * 9 + pr_ix A e 57 (A 49 11) (tn e (tn e p))).toNat (tk e (tn e (tn e (tn e p)))).2.2.2.2, tn e (tn e (tn e (tn e p))))
def pr_dare (A : ab_SG) (e : tk_E) (p : Nat) : pr_R :=
  if pr_sk A e 59 (A 49 13) (tn e p) ≠ 0 then (pr_sk A e 59 (A 49 13) (tn e p), A, tn e p)
  else if pr_hs (A 48 3) (pr_ix A e 59 (A 49 13) (tn e p)) then (3, A, tn e p)
  else if pr_nm e (tn e (tn e p)) 0 9 ≠ 0 then (pr_nm e (tn e (tn e p)) 0 9, A, tn e (tn e p))
  else (0, ab_ups (ab_ups A 48 3 (pr_or (A 48 3) (pr_ix A e 59 (A 49 13) (tn e p)))) 56 (pr_ix A e 59 (A 49 13) (tn e p)).toNat (tk e (tn e (tn e p))).2.2.2.2, tn e (tn e (tn e p)))
def pr_from (A : ab_SG) (e : tk_E) (p : Nat) : pr_R :=
  if A 48 4 ≠ 0 then (3, A, p)
  else if pr_nm e (tn e p) 1 9 ≠ 0 then (pr_nm e (tn e p) 1 9, A, tn e p)
  else (0, ab_ups (ab_ups A 48 4 1) 49 14 (tk e (tn e p)).2.2.2.2, tn e (tn e p))
def pr_line (A : ab_SG) (e : tk_E) (p : Nat) : pr_R :=
  if tw e p = 0 then pr_tune A e p else if tw e p = 1 then pr_clue A e p else if tw e p = 2 then pr_person A e p
  else if tw e p = 3 then pr_knows A e p else if tw e p = 4 then pr_dare A e p else if tw e p = 5 then pr_from A e p else (1, A, p)
/-- a line and its sign -/
def pr_lns (A : ab_SG) (e : tk_E) (p : Nat) : pr_R :=
  if (pr_line A e p).1 ≠ 0 then pr_line A e p
  else if (tk e (pr_line A e p).2.2).1 ≠ 59 then (1, (pr_line A e p).2.1, (pr_line A e p).2.2)
  else (0, (pr_line A e p).2.1, tn e (pr_line A e p).2.2)
/-- all lines: how many -/
def pr_all (e : tk_E) : Nat → Int → ab_SG → Nat → pr_R × Int
  | 0, n, A, p => ((0, A, p), n)
  | f + 1, n, A, p => if (tk e p).1 = 0 then ((0, A, p), n) else if (pr_lns A e p).1 ≠ 0 then (pr_lns A e p, n) else pr_all e f (n + 1) (pr_lns A e p).2.1 (pr_lns A e p).2.2
/-! where a token ends -/
theorem tn_le {e : tk_E} {p : Nat} (h : p ≤ e.2.1) : p ≤ tn e p ∧ tn e p ≤ e.2.1 := by
  have hs := tk_sk_le e.1 (e.2.1 - p) p
  have hq : tk_sk e.1 (e.2.1 - p) p ≤ e.2.1 := by omega
  show p ≤ (tk_at e.1 e.2.1 e.2.2 (tk_sk e.1 (e.2.1 - p) p)).2.2.1 ∧ (tk_at e.1 e.2.1 e.2.2 (tk_sk e.1 (e.2.1 - p) p)).2.2.1 ≤ e.2.1
  generalize tk_sk e.1 (e.2.1 - p) p = q at hs hq
  unfold tk_at
  split
  · exact ⟨hs.1, hq⟩
  · split
    · exact ⟨hs.1, hq⟩
    · rename_i h1 h2
      split
      · have hr := tk_run_le e.1 (e.2.1 - q) q (0, 0, 0, 0)
        have e1 : (tk_rt q (tk_run e.1 (e.2.1 - q) q (0, 0, 0, 0))).2.2.1 = (tk_run e.1 (e.2.1 - q) q (0, 0, 0, 0)).1 := by
          unfold tk_rt
          split
          · rfl
          · split <;> rfl
        rw [e1]
        omega
      · show p ≤ q + 1 ∧ q + 1 ≤ e.2.1
        omega
/-- a token other than the end and none: it has a byte -/
theorem tn_lt {e : tk_E} {p : Nat} (h : p ≤ e.2.1) (hk : 2 ≤ (tk e p).1) : p < tn e p := by
  have hs := tk_sk_le e.1 (e.2.1 - p) p
  replace hk : 2 ≤ (tk_at e.1 e.2.1 e.2.2 (tk_sk e.1 (e.2.1 - p) p)).1 := hk
  show p < (tk_at e.1 e.2.1 e.2.2 (tk_sk e.1 (e.2.1 - p) p)).2.2.1
  generalize tk_sk e.1 (e.2.1 - p) p = q at hs hk
  unfold tk_at at hk ⊢
  split at hk
  · exact absurd hk (by show ¬ (2 : Int) ≤ 1; decide)
  · rename_i h1
    rw [if_neg h1]
    split at hk
    · exact absurd hk (by show ¬ (2 : Int) ≤ 0; decide)
    · rename_i h2
      rw [if_neg h2]
      split at hk
      · rename_i h3
        rw [if_pos h3]
        have e1 : (tk_rt q (tk_run e.1 (e.2.1 - q) q (0, 0, 0, 0))).2.2.1 = (tk_run e.1 (e.2.1 - q) q (0, 0, 0, 0)).1 := by
          unfold tk_rt
          split
          · rfl
          · split <;> rfl
        rw [e1]
        have hf : e.2.1 - q = (e.2.1 - q - 1) + 1 := by omega
        rw [hf]
        unfold tk_run
        split
        · have := tk_run_le e.1 (e.2.1 - q - 1) (q + 1) (0 + 1, 0, fw_d (0 * 32 + e.1 q - 97 + 1), 0)
          exact Nat.lt_of_lt_of_le (by omega) this.1
        · split
          · have := tk_run_le e.1 (e.2.1 - q - 1) (q + 1) (0, 0 + 1, 0, fw_c (0 * 10 + e.1 q - 48))
            exact Nat.lt_of_lt_of_le (by omega) this.1
          · exfalso
            omega
      · rename_i h3
        rw [if_neg h3]
        show p < q + 1
        omega
