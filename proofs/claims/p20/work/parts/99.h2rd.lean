/-! the class's reader against the reading by itself: what it stands on -/
def pr_in (k j : Nat) : Bool := match k with
  | 48 => j.beq 3 || j.beq 4
  | 49 => j.beq 11 || j.beq 12 || j.beq 13 || j.beq 14
  | 50 => true
  | 51 => true
  | 52 => true
  | 54 => true
  | 55 => true
  | 56 => true
  | 57 => true
  | 58 => true
  | 59 => true
  | 64 => true
  | _ => false
def agr (σ A : ab_SG) : Prop := ∀ k j : Nat, pr_in k j = true → σ k j = A k j
abbrev RI (A : ab_SG) : Prop := (0 ≤ A 49 11 ∧ A 49 11 ≤ 9) ∧ (0 ≤ A 49 12 ∧ A 49 12 ≤ 6) ∧ (0 ≤ A 49 13 ∧ A 49 13 ≤ 5) ∧ (∀ j : Nat, j < 9 → fw_d (A 57 j) = A 57 j) ∧ (∀ j : Nat, j < 6 → fw_d (A 58 j) = A 58 j) ∧ (∀ j : Nat, j < 5 → fw_d (A 59 j) = A 59 j) ∧ (∀ j : Nat, j < 9 → 0 ≤ A 52 j ∧ A 52 j ≤ 9) ∧ (0 ≤ A 48 4 ∧ A 48 4 ≤ 1)
def eT (σ : ab_SG) : tk_E := (tp_t σ, (σ 1 1).toNat, σ 1 2)
def RD (σ A : ab_SG) (e : tk_E) (p : Nat) : Prop := agr σ A ∧ RI A ∧ eT σ = e ∧ st_is σ (tk e p) ∧ p ≤ e.2.1 ∧ (0 ≤ σ 1 1 ∧ σ 1 1 ≤ 940 ∧ 0 ≤ σ 1 2 ∧ σ 1 2 ≤ 940) ∧ σ 1 9 = 0
def rd_M : ab_ML := (1, 9) :: (1, 10) :: (48, 3) :: (48, 4) :: (49, 11) :: (49, 12) :: (49, 13) :: (49, 14) :: (50, 1000000) :: (51, 1000000) :: (52, 1000000) :: (54, 1000000) :: (55, 1000000) :: (56, 1000000) :: (57, 1000000) :: (58, 1000000) :: (59, 1000000) :: (64, 1000000) :: st_M
theorem fw_okM_upa {M : ab_ML} {σ σ' : ab_SG} {k j : Nat} {x : Int} (h : ab_okM M σ σ') (hm : M.any (fun q => q.1.beq k && q.2.beq 1000000) = true) : ab_okM M σ (ab_ups σ' k j x) := by
  intro a b hab
  rw [ab_ups_ne ?_]
  · exact h a b hab
  · rintro ⟨rfl, rfl⟩
    obtain ⟨q, hq, hq2⟩ := List.any_eq_true.mp hm
    rw [Bool.and_eq_true] at hq2
    exact hab q hq ⟨ab_beq hq2.1, Or.inr (ab_beq hq2.2)⟩
theorem agr_ups {σ A : ab_SG} {k j : Nat} {v : Int} (h : agr σ A) : agr (ab_ups σ k j v) (ab_ups A k j v) := by
  intro a b hab
  by_cases hc : a = k ∧ b = j
  · obtain ⟨rfl, rfl⟩ := hc
    rw [ab_ups_eq, ab_ups_eq]
  · rw [ab_ups_ne hc, ab_ups_ne hc]
    exact h a b hab
theorem agr_M {σ σ' A : ab_SG} {M : ab_ML} (h : agr σ A) (hM : ab_okM M σ σ') (hm : M.all (fun q => !(pr_in q.1 q.2) && !(q.2.beq 1000000)) = true) : agr σ' A := by
  intro a b hab
  rw [hM a b (fun q hq hq2 => ?_)]
  · exact h a b hab
  · have := List.all_eq_true.mp hm q hq
    rw [Bool.and_eq_true, Bool.not_eq_true', Bool.not_eq_true'] at this
    rcases hq2.2 with g | g
    · rw [hq2.1, g, hab] at this
      exact absurd this.1 (by decide)
    · rw [g] at this
      exact absurd this.2 (by decide)
theorem tk_run_d (t : Nat → Int) : ∀ (f p : Nat) (s : tk_S), fw_d s.2.2.1 = s.2.2.1 → fw_c s.2.2.2 = s.2.2.2 → fw_d (tk_run t f p s).2.2.2.1 = (tk_run t f p s).2.2.2.1 ∧ fw_c (tk_run t f p s).2.2.2.2 = (tk_run t f p s).2.2.2.2 := by
  intro f
  induction f with
  | zero => intro p s h1 h2; exact ⟨h1, h2⟩
  | succ f ih =>
    intro p s h1 h2
    unfold tk_run
    split
    · exact ih _ _ (fw_d_d _) h2
    · split
      · exact ih _ _ h1 (fw_c_c _)
      · exact ⟨h1, h2⟩
/-- a token's numbers -/
theorem tk_can (e : tk_E) (p : Nat) : (0 ≤ (tk e p).1 ∧ (tk e p).1 ≤ 62) ∧ ((tk e p).1 = 2 → fw_d (tk e p).2.2.2.1 = (tk e p).2.2.2.1) ∧ ((tk e p).1 = 3 → fw_c (tk e p).2.2.2.2 = (tk e p).2.2.2.2) := by
  show (0 ≤ (tk_at e.1 e.2.1 e.2.2 (tk_sk e.1 (e.2.1 - p) p)).1 ∧ (tk_at e.1 e.2.1 e.2.2 (tk_sk e.1 (e.2.1 - p) p)).1 ≤ 62) ∧ ((tk_at e.1 e.2.1 e.2.2 (tk_sk e.1 (e.2.1 - p) p)).1 = 2 → fw_d (tk_at e.1 e.2.1 e.2.2 (tk_sk e.1 (e.2.1 - p) p)).2.2.2.1 = (tk_at e.1 e.2.1 e.2.2 (tk_sk e.1 (e.2.1 - p) p)).2.2.2.1) ∧ ((tk_at e.1 e.2.1 e.2.2 (tk_sk e.1 (e.2.1 - p) p)).1 = 3 → fw_c (tk_at e.1 e.2.1 e.2.2 (tk_sk e.1 (e.2.1 - p) p)).2.2.2.2 = (tk_at e.1 e.2.1 e.2.2 (tk_sk e.1 (e.2.1 - p) p)).2.2.2.2)
  generalize tk_sk e.1 (e.2.1 - p) p = q
  have z : fw_d 0 = 0 := fw_d_id (by decide) (by decide)
  unfold tk_at
  split
  · exact ⟨⟨by show (0 : Int) ≤ 1; decide, by show (1 : Int) ≤ 62; decide⟩, fun _ => z, fun _ => fw_c0⟩
  · split
    · exact ⟨⟨by show (0 : Int) ≤ 0; decide, by show (0 : Int) ≤ 62; decide⟩, fun _ => z, fun _ => fw_c0⟩
    · split
      · have hr := tk_run_d e.1 (e.2.1 - q) q (0, 0, 0, 0) z fw_c0
        unfold tk_rt
        split
        · exact ⟨⟨by show (0 : Int) ≤ 2; decide, by show (2 : Int) ≤ 62; decide⟩, fun _ => hr.1, fun _ => fw_c0⟩
        · split
          · exact ⟨⟨by show (0 : Int) ≤ 3; decide, by show (3 : Int) ≤ 62; decide⟩, fun _ => z, fun _ => hr.2⟩
          · exact ⟨⟨by show (0 : Int) ≤ 1; decide, by show (1 : Int) ≤ 62; decide⟩, fun _ => z, fun _ => fw_c0⟩
      · refine ⟨?_, fun _ => z, fun _ => fw_c0⟩
        show 0 ≤ (if e.1 q = 59 ∨ (60 ≤ e.1 q ∧ e.1 q ≤ 62) ∨ e.1 q = 40 ∨ e.1 q = 41 ∨ e.1 q = 46 then e.1 q else 1) ∧ (if e.1 q = 59 ∨ (60 ≤ e.1 q ∧ e.1 q ≤ 62) ∨ e.1 q = 40 ∨ e.1 q = 41 ∨ e.1 q = 46 then e.1 q else 1) ≤ 62
        split <;> omega
theorem kw_of_in : ∀ (i : Nat) (w d : Int), kw_of i w d = d ∨ (0 ≤ kw_of i w d ∧ kw_of i w d < i) := by
  intro i
  induction i with
  | zero => intro w d; exact Or.inl rfl
  | succ i ih =>
    intro w d
    unfold kw_of
    split
    · exact Or.inr ⟨Int.natCast_nonneg i, by omega⟩
    · rcases ih w d with h | h
      · exact Or.inl h
      · exact Or.inr ⟨h.1, by omega⟩
section
variable {σ A : ab_SG} {e : tk_E} {p : Nat}
theorem RD.kind (h : RD σ A e p) : σ 1 5 = (tk e p).1 ∧ fw_c (σ 1 5) = (tk e p).1 := by
  obtain ⟨-, -, -, hk, -, -⟩ := h
  have := (tk_can e p).1
  rw [hk.1]
  exact ⟨rfl, fw_c_id (by omega) (by omega)⟩
theorem RD.kw (h : RD σ A e p) : σ 1 7 = tw e p ∧ -1 ≤ σ 1 7 ∧ σ 1 7 ≤ 16 := by
  obtain ⟨-, -, -, hk, -, -⟩ := h
  have e1 : σ 1 7 = tw e p := by
    unfold tw
    by_cases q : (tk e p).1 = 2
    · rw [if_pos q]; exact (hk.2.2.2.1 q).2
    · rw [if_neg q]; exact hk.2.2.2.2.1 q
  refine ⟨e1, ?_⟩
  rw [e1]
  unfold tw
  split
  · rcases kw_of_in 17 (tk e p).2.2.2.1 (-1) with g | g
    · rw [g]; decide
    · omega
  · decide
theorem RD.st (h : RD σ A e p) : st_pre σ ∧ ∀ σ' : ab_SG, ab_okM st_M σ σ' → st_is σ' (st_nx σ) → RD σ' A e (tn e p) := by
  obtain ⟨ha, hi, he, hk, hp, hb, h9⟩ := h
  have e3 : σ 1 3 = ((tn e p : Nat) : Int) := hk.2.2.1
  have hn := tn_le hp
  have en : e.2.1 = (σ 1 1).toNat := by rw [← he]; rfl
  refine ⟨⟨by omega, by omega, hb.2.1, hb.2.2.1, hb.2.2.2⟩, fun σ' hM hs => ⟨agr_M ha hM (by decide), hi, ?_, ?_, hn.2, ?_, (hM 1 9 (by decide)).trans h9⟩⟩
  · rw [← he]
    unfold eT
    rw [tp_t_M hM (by decide), hM 1 1 (by decide), hM 1 2 (by decide)]
  · have e4 : st_nx σ = tk e (tn e p) := by
      rw [← he]
      unfold st_nx tk eT
      rw [e3, Int.toNat_natCast, ← he]
      rfl
    rw [← e4]
    exact hs
  · rw [hM 1 1 (by decide), hM 1 2 (by decide)]
    exact hb
/-- a number of the state, set on both sides -/
theorem RD.ups {k j : Nat} {v : Int} (h : RD σ A e p) (hk : k ≠ 1 ∧ k ≠ 2) (hi : RI (ab_ups A k j v)) : RD (ab_ups σ k j v) (ab_ups A k j v) e p := by
  obtain ⟨ha, -, he, hs, hp, hb, h9⟩ := h
  have n1 : ∀ b : Nat, ab_ups σ k j v 1 b = σ 1 b := fun b => ab_ups_ne (fun z => hk.1 z.1.symm)
  have n2 : ab_ups σ k j v 2 = σ 2 := ab_ups_row (fun z => hk.2 z.symm)
  refine ⟨agr_ups ha, hi, ?_, ?_, hp, ?_, (n1 9).trans h9⟩
  · rw [← he]
    unfold eT tp_t
    rw [n1, n1, n2]
  · unfold st_is
    rw [n1, n1, n1, n1, n1, n1]
    exact hs
  · rw [n1, n1]
    exact hb
theorem RD.pl (h : RD σ A e p) {k j : Nat} (hk : pr_in k j = true) : σ k j = A k j := h.1 k j hk
theorem tp_rf_M (x : Int) : ab_okM rd_M σ (tp_rf σ x) := fw_okM_ups (fw_okM_ups (fw_okM_refl _ _) (by decide)) (by decide)
theorem tp_rf_9 (x : Int) : tp_rf σ x 1 9 = fw_c x := by
  unfold tp_rf
  rw [ab_ups_ne (by decide), ab_ups_eq]
/-- a fault: none of the state is wanted behind it -/
def rd_no (σ : ab_SG) (f : Int) (K : fw_KR) (v : Int) : Prop := ∀ σ' : ab_SG, ab_okM rd_M σ σ' → σ' 1 9 = f → K (some (0, 0, v)) σ'
theorem RD.num (h : RD σ A e p) {a b : Int} {K : fw_KR} (hab : 0 ≤ a ∧ a ≤ 24 ∧ 0 ≤ b ∧ b ≤ 24) (h0 : pr_nm e p a b ≠ 0 → rd_no σ (pr_nm e p a b) K 0) (h1 : pr_nm e p a b = 0 → σ 1 8 = (tk e p).2.2.2.2 → a ≤ (tk e p).2.2.2.2 → (tk e p).2.2.2.2 ≤ b → K (some (0, 0, 1)) σ) :
    sp_needNumber [(2, 1, 0), (0, 0, a), (0, 0, b)] σ K := by
  have hk := h.kind
  have hc := tk_can e p
  have ea : fw_c a = a := fw_c_id (by omega) (by omega)
  have eb : fw_c b = b := fw_c_id (by omega) (by omega)
  refine ⟨a, b, rfl, ?_⟩
  rw [hk.2, ea, eb]
  unfold pr_nm at h0 h1
  refine ⟨fun q => ?_, fun q q2 => ?_, fun q q2 => ?_⟩
  · rw [if_neg q] at h0
    exact h0 (by decide) _ (tp_rf_M 1) (by rw [tp_rf_9, fw_c1])
  · have e8 : σ 1 8 = (tk e p).2.2.2.2 := h.2.2.2.1.2.2.2.2.2 q
    rw [e8, hc.2.2 q] at q2
    rw [if_pos q, if_neg q2] at h0
    exact h0 (by decide) _ (tp_rf_M 2) (by rw [tp_rf_9]; exact fw_c_id (by decide) (by decide))
  · have e8 : σ 1 8 = (tk e p).2.2.2.2 := h.2.2.2.1.2.2.2.2.2 q
    rw [e8, hc.2.2 q] at q2
    rw [if_pos q, if_pos q2] at h1
    exact h1 rfl e8 q2.1 q2.2
theorem RD.word (h : RD σ A e p) (q : (tk e p).1 = 2) : σ 1 6 = pr_wd e p ∧ fw_d (σ 1 6) = σ 1 6 := by
  have e6 : σ 1 6 = pr_wd e p := (h.2.2.2.1.2.2.2.1 q).1
  refine ⟨e6, ?_⟩
  rw [e6]
  exact (tk_can e p).2.1 q
theorem rw_cong {a b : Nat → Int} {w : Int} : ∀ (f i : Nat), (∀ j : Nat, i ≤ j → j < i + f → a j = b j) → rw_fd a w f i = rw_fd b w f i := by
  intro f
  induction f with
  | zero => intro i _; rfl
  | succ f ih =>
    intro i h
    unfold rw_fd
    rw [h i (Nat.le_refl _) (by omega), ih (i + 1) (fun j h1 h2 => h j (by omega) (by omega))]
theorem RD.name (h : RD σ A e p) : (fw_c (σ 1 5) = 2 ∧ σ 1 7 < 0) ↔ ((tk e p).1 = 2 ∧ tw e p < 0) := by rw [h.kind.2, h.kw.1]
theorem RD.row (h : RD σ A e p) {k n : Nat} (hkn : (k, n) ∈ rw_L) : σ k = A k := by
  funext j
  refine h.pl ?_
  rcases List.mem_cons.mp hkn with q | hkn
  · cases q; rfl
  rcases List.mem_cons.mp hkn with q | hkn
  · cases q; rfl
  rcases List.mem_cons.mp hkn with q | hkn
  · cases q; rfl
  cases hkn
theorem RD.dn (h : RD σ A e p) {k n : Nat} (hkn : (k, n) ∈ rw_L) : ∀ j : Nat, j < n → fw_d (σ k j) = σ k j := by
  rw [h.row hkn]
  obtain ⟨-, hi, -⟩ := h
  rcases List.mem_cons.mp hkn with q | hkn
  · cases q; exact hi.2.2.2.1
  rcases List.mem_cons.mp hkn with q | hkn
  · cases q; exact hi.2.2.2.2.1
  rcases List.mem_cons.mp hkn with q | hkn
  · cases q; exact hi.2.2.2.2.2.1
  cases hkn
theorem RD.seek (h : RD σ A e p) {k n : Nat} {x : Int} {K : fw_KR} (hkn : (k, n) ∈ rw_L) (hx : 0 ≤ x ∧ x ≤ (n : Int)) (h0 : pr_sk A e k x p ≠ 0 → rd_no σ (pr_sk A e k x p) K (-1)) (h1 : pr_sk A e k x p = 0 → 0 ≤ pr_ix A e k x p → pr_ix A e k x p < x → K (some (0, 0, pr_ix A e k x p)) σ) :
    sp_seek [(2, 1, 0), (2, k, 0), (0, 0, x)] σ K := by
  have hN := h.name
  refine ⟨(k, n), hkn, x, rfl, hx, fun j hj => h.dn hkn j (by omega), fun q => (h.word (hN.mp q).1).2, fun q => ?_, fun q q2 => ?_, fun q q2 => ?_⟩
  · unfold pr_sk at h0
    rw [if_neg (fun z => q (hN.mpr z))] at h0
    exact h0 (by decide) _ (tp_rf_M 1) (by rw [tp_rf_9, fw_c1])
  · have hq := hN.mp q
    rw [h.row hkn, (h.word hq.1).1] at q2
    unfold pr_sk at h0
    rw [if_pos hq, if_pos (show pr_ix A e k x p < 0 from q2)] at h0
    exact h0 (by decide) _ (tp_rf_M 3) (by rw [tp_rf_9]; exact fw_c_id (by decide) (by decide))
  · have hq := hN.mp q
    rw [h.row hkn, (h.word hq.1).1] at q2 ⊢
    have hlt := rw_fd_le (A k) (pr_wd e p) x.toNat 0
    unfold pr_sk at h1
    rw [if_pos hq, if_neg (show ¬ pr_ix A e k x p < 0 from fun z => absurd q2 (by show ¬ 0 ≤ pr_ix A e k x p; omega))] at h1
    refine h1 rfl q2 ?_
    show rw_fd (A k) (pr_wd e p) x.toNat 0 < x
    omega
end
def sp_isNewName : fw_SP := fun as σ K => ∃ (A : ab_SG) (e : tk_E) (p : Nat), as = [(2, 48, 0)] ∧ RD σ A e p ∧ (pr_new A e p ≠ 0 → rd_no σ (pr_new A e p) K 0) ∧ (pr_new A e p = 0 → (tk e p).1 = 2 → K (some (0, 0, 1)) σ)
def rd_post (σ : ab_SG) (r : pr_R) (e : tk_E) (K : fw_KR) : Prop := (r.1 ≠ 0 → rd_no σ r.1 K 0) ∧ (r.1 = 0 → ∀ σ' : ab_SG, ab_okM rd_M σ σ' → RD σ' r.2.1 e r.2.2 → K (some (0, 0, 1)) σ')
def sp_readNote : fw_SP := fun as σ K => ∃ (x : Int) (A : ab_SG) (e : tk_E) (p : Nat), as = [(2, 48, 0), (0, 0, x)] ∧ RD σ A e p ∧ (0 ≤ x ∧ x < 9) ∧ rd_post σ (pr_note A e x p) e K
def sp_readLeft : fw_SP := fun as σ K => ∃ (c : Int) (A : ab_SG) (e : tk_E) (p : Nat), as = [(2, 48, 0), (0, 0, c)] ∧ RD σ A e p ∧ (0 ≤ c ∧ c < 6) ∧ rd_post σ (pr_left A e c p) e K
def sp_readTune : fw_SP := fun as σ K => ∃ (A : ab_SG) (e : tk_E) (p : Nat), as = [(2, 48, 0)] ∧ RD σ A e p ∧ rd_post σ (pr_tune A e p) e K
def sp_readClue : fw_SP := fun as σ K => ∃ (A : ab_SG) (e : tk_E) (p : Nat), as = [(2, 48, 0)] ∧ RD σ A e p ∧ rd_post σ (pr_clue A e p) e K
def sp_readPerson : fw_SP := fun as σ K => ∃ (A : ab_SG) (e : tk_E) (p : Nat), as = [(2, 48, 0)] ∧ RD σ A e p ∧ rd_post σ (pr_person A e p) e K
def sp_readKnows : fw_SP := fun as σ K => ∃ (A : ab_SG) (e : tk_E) (p : Nat), as = [(2, 48, 0)] ∧ RD σ A e p ∧ rd_post σ (pr_knows A e p) e K
def sp_readDare : fw_SP := fun as σ K => ∃ (A : ab_SG) (e : tk_E) (p : Nat), as = [(2, 48, 0)] ∧ RD σ A e p ∧ rd_post σ (pr_dare A e p) e K
def sp_readFrom : fw_SP := fun as σ K => ∃ (A : ab_SG) (e : tk_E) (p : Nat), as = [(2, 48, 0)] ∧ RD σ A e p ∧ rd_post σ (pr_from A e p) e K
def sp_readLine : fw_SP := fun as σ K => ∃ (A : ab_SG) (e : tk_E) (p : Nat), as = [(2, 48, 0)] ∧ RD σ A e p ∧ rd_post σ (pr_line A e p) e K
def sp_setNinth49 : fw_SP := fun as σ K => ∃ p x k : Int, as = [(2, 49, 0), (0, 0, p), (0, 0, x), (0, 0, k)] ∧ (0 ≤ p ∧ p < 5 ∧ 0 ≤ x ∧ x < 9) ∧ K none (ab_ups σ 55 (p * 9 + x).toNat (fw_c k))
abbrev fk_setNinth49 : List fw_CR := [(99, 3, false, 0, 0, sp_put)]
abbrev st_setNinth49 : fw_K → fw_KR → fw_K := fw_st vwCl nn_sh nn_kd fw_kv fw_wc (nn_KI6.map (fun x => x.1)) (nn_KJ6.map (fun x => x.1)) (nn_PF6.map (fun x => x.1)) (nn_PS6.map (fun x => x.1)) fk_setNinth49 1 nn_dt37 4 4
theorem fs_setNinth49_0 {G : fw_K} {R : fw_KR} (hG : fw_cls st_setNinth49 R G) {p x k : Int} {σ : ab_SG} (h : sp_put [(2, 55, 0), (0, 0, (p * 9) + x), (0, 0, k)] σ (fun rv σ2 => G 14 [some (2, 49, 0), some (0, 0, p), some (0, 0, x), some (0, 0, k)] (rv.toList ++ []) σ2)) : G 0 [some (2, 49, 0), some (0, 0, p), some (0, 0, x), some (0, 0, k)] [] σ := fw_on hG [14] 200 h
theorem fs_setNinth49_14 {G : fw_K} {R : fw_KR} (hG : fw_cls st_setNinth49 R G) {a1 a2 a3 : Int} {σ : ab_SG} (h : R none σ) : G 14 [some (2, 49, 0), some (0, 0, a1), some (0, 0, a2), some (0, 0, a3)] [] σ := fw_on hG [14] 200 h
abbrev fk_isNewName : List fw_CR := [(107, 1, true, 8, 0, sp_refuse), (198, 0, true, 8, 0, sp_isName), (201, 2, true, 7, 0, sp_isIn)]
abbrev st_isNewName : fw_K → fw_KR → fw_K := fw_st vwCl nn_sh nn_kd fw_kv fw_wc (nn_KI3.map (fun x => x.1)) (nn_KJ3.map (fun x => x.1)) (nn_PF3.map (fun x => x.1)) (nn_PS3.map (fun x => x.1)) fk_isNewName 1 nn_dt23 2 1
theorem fs_isNewName_0 {G : fw_K} {R : fw_KR} (hG : fw_cls st_isNewName R G) {σ : ab_SG} (h : sp_isName [(2, 1, 0)] σ (fun rv σ2 => G 7 [some (2, 48, 0), none] (rv.toList ++ []) σ2)) : G 0 [some (2, 48, 0), none] [] σ := fw_on hG [7, 18, 37, 58, 79, 82, 87, 100] 200 h
theorem fs_isNewName_7 {G : fw_K} {R : fw_KR} (hG : fw_cls st_isNewName R G) {b0 : Int} {σ : ab_SG} (h : (fw_c b0 ≠ 0 → sp_isIn [(2, 48, 0), (2, 57, 0), (0, 0, σ 49 11)] σ (fun rv σ2 => G 37 [some (2, 48, 0), none] (rv.toList ++ []) σ2)) ∧ (fw_c b0 = 0 → sp_refuse [(2, 1, 0), (0, 0, 1)] σ (fun rv σ2 => G 18 [some (2, 48, 0), none] (rv.toList ++ []) σ2))) : G 7 [some (2, 48, 0), none] [(0, 0, b0)] σ := fw_on hG [7, 18, 37, 58, 79, 82, 87, 100] 200 h
theorem fs_isNewName_37 {G : fw_K} {R : fw_KR} (hG : fw_cls st_isNewName R G) {b0 : Int} {σ : ab_SG} (h : (fw_c b0 ≠ 0 → G 82 [some (2, 48, 0), none] [] σ) ∧ (fw_c b0 = 0 → sp_isIn [(2, 48, 0), (2, 58, 0), (0, 0, σ 49 12)] σ (fun rv σ2 => G 58 [some (2, 48, 0), none] (rv.toList ++ []) σ2))) : G 37 [some (2, 48, 0), none] [(0, 0, b0)] σ := fw_on hG [7, 18, 37, 58, 79, 82, 87, 100] 200 h
theorem fs_isNewName_18 {G : fw_K} {R : fw_KR} (hG : fw_cls st_isNewName R G) {b0 : Int} {σ : ab_SG} (h : (0 ≤ fw_c b0 ∧ fw_c b0 ≤ 1) ∧ R (some (0, 0, b0)) σ) : G 18 [some (2, 48, 0), none] [(0, 0, b0)] σ := fw_on hG [7, 18, 37, 58, 79, 82, 87, 100] 200 h
theorem fs_isNewName_82 {G : fw_K} {R : fw_KR} (hG : fw_cls st_isNewName R G) {σ : ab_SG} (h : G 87 [some (2, 48, 0), none] [(0, 0, 1)] σ) : G 82 [some (2, 48, 0), none] [] σ := fw_on hG [7, 18, 37, 58, 79, 82, 87, 100] 200 h
theorem fs_isNewName_58 {G : fw_K} {R : fw_KR} (hG : fw_cls st_isNewName R G) {b0 : Int} {σ : ab_SG} (h : (fw_c b0 ≠ 0 → G 82 [some (2, 48, 0), none] [] σ) ∧ (fw_c b0 = 0 → sp_isIn [(2, 48, 0), (2, 59, 0), (0, 0, σ 49 13)] σ (fun rv σ2 => G 79 [some (2, 48, 0), none] (rv.toList ++ []) σ2))) : G 58 [some (2, 48, 0), none] [(0, 0, b0)] σ := fw_on hG [7, 18, 37, 58, 79, 82, 87, 100] 200 h
theorem fs_isNewName_87 {G : fw_K} {R : fw_KR} (hG : fw_cls st_isNewName R G) {b0 : Int} {σ : ab_SG} (h : (fw_c b0 = 0 → (0 ≤ fw_c 1 ∧ fw_c 1 ≤ 1) ∧ R (some (0, 0, 1)) σ) ∧ (fw_c b0 ≠ 0 → sp_refuse [(2, 1, 0), (0, 0, 3)] σ (fun rv σ2 => G 100 [some (2, 48, 0), some (0, 0, b0)] (rv.toList ++ []) σ2))) : G 87 [some (2, 48, 0), none] [(0, 0, b0)] σ := fw_on hG [7, 18, 37, 58, 79, 82, 87, 100] 200 h
theorem fs_isNewName_79 {G : fw_K} {R : fw_KR} (hG : fw_cls st_isNewName R G) {b0 : Int} {σ : ab_SG} (h : (fw_c b0 = 0 → G 87 [some (2, 48, 0), none] [(0, 0, 0)] σ) ∧ (fw_c b0 ≠ 0 → G 82 [some (2, 48, 0), none] [] σ)) : G 79 [some (2, 48, 0), none] [(0, 0, b0)] σ := fw_on hG [7, 18, 37, 58, 79, 82, 87, 100] 200 h
theorem fs_isNewName_100 {G : fw_K} {R : fw_KR} (hG : fw_cls st_isNewName R G) {a1 b0 : Int} {σ : ab_SG} (h : (fw_c b0 = 0 → (0 ≤ fw_c 0 ∧ fw_c 0 ≤ 1) ∧ R (some (0, 0, 0)) σ) ∧ (fw_c b0 ≠ 0 → (0 ≤ fw_c 1 ∧ fw_c 1 ≤ 1) ∧ R (some (0, 0, 1)) σ)) : G 100 [some (2, 48, 0), some (0, 0, a1)] [(0, 0, b0)] σ := fw_on hG [7, 18, 37, 58, 79, 82, 87, 100] 200 h
abbrev fk_readNote : List fw_CR := [(107, 1, true, 8, 0, sp_refuse), (113, 0, true, 8, 2, sp_step), (134, 3, false, 0, 0, sp_put), (140, 2, false, 0, 0, sp_at), (144, 2, true, 8, 1, sp_needNumber)]
abbrev st_readNote : fw_K → fw_KR → fw_K := fw_st vwCl nn_sh nn_kd fw_kv fw_wc (nn_KI3.map (fun x => x.1)) (nn_KJ3.map (fun x => x.1)) (nn_PF3.map (fun x => x.1)) (nn_PS3.map (fun x => x.1)) fk_readNote 4 nn_dt28 3 1
theorem fs_readNote_0 {G : fw_K} {R : fw_KR} (hG : fw_cls st_readNote R G) {x : Int} {σ : ab_SG} (h : sp_at [(2, 52, 0), (0, 0, x)] σ (fun rv σ2 => G 11 [some (2, 48, 0), some (0, 0, x), none] (rv.toList ++ []) σ2)) : G 0 [some (2, 48, 0), some (0, 0, x), none] [] σ := fw_on hG [11, 22, 41, 65, 72, 82, 110, 124, 131] 200 h
theorem fs_readNote_11 {G : fw_K} {R : fw_KR} (hG : fw_cls st_readNote R G) {a1 b0 : Int} {σ : ab_SG} (h : sp_needNumber [(2, 1, 0), (0, 0, 0), (0, 0, 24)] σ (fun rv σ2 => G 22 [some (2, 48, 0), some (0, 0, a1), some (0, 0, b0)] (rv.toList ++ []) σ2)) : G 11 [some (2, 48, 0), some (0, 0, a1), none] [(0, 0, b0)] σ := fw_on hG [11, 22, 41, 65, 72, 82, 110, 124, 131] 200 h
theorem fs_readNote_22 {G : fw_K} {R : fw_KR} (hG : fw_cls st_readNote R G) {a1 a2 b0 : Int} {σ : ab_SG} (h : (fw_c b0 ≠ 0 → (fw_c a2 < fw_c 9 → sp_put [(2, 50, 0), (0, 0, (a1 * 9) + a2), (0, 0, σ 1 8)] σ (fun rv σ2 => G 65 [some (2, 48, 0), some (0, 0, a1), some (0, 0, a2)] (rv.toList ++ []) σ2)) ∧ (fw_c 9 ≤ fw_c a2 → sp_refuse [(2, 1, 0), (0, 0, 4)] σ (fun rv σ2 => G 41 [some (2, 48, 0), some (0, 0, a1), some (0, 0, a2)] (rv.toList ++ []) σ2))) ∧ (fw_c b0 = 0 → (0 ≤ fw_c 0 ∧ fw_c 0 ≤ 1) ∧ R (some (0, 0, 0)) σ)) : G 22 [some (2, 48, 0), some (0, 0, a1), some (0, 0, a2)] [(0, 0, b0)] σ := fw_on hG [11, 22, 41, 65, 72, 82, 110, 124, 131] 200 h
theorem fs_readNote_65 {G : fw_K} {R : fw_KR} (hG : fw_cls st_readNote R G) {a1 a2 : Int} {σ : ab_SG} (h : sp_step [(2, 1, 0)] σ (fun rv σ2 => G 72 [some (2, 48, 0), some (0, 0, a1), some (0, 0, a2)] (rv.toList ++ []) σ2)) : G 65 [some (2, 48, 0), some (0, 0, a1), some (0, 0, a2)] [] σ := fw_on hG [11, 22, 41, 65, 72, 82, 110, 124, 131] 200 h
theorem fs_readNote_41 {G : fw_K} {R : fw_KR} (hG : fw_cls st_readNote R G) {a1 a2 b0 : Int} {σ : ab_SG} (h : (0 ≤ fw_c b0 ∧ fw_c b0 ≤ 1) ∧ R (some (0, 0, b0)) σ) : G 41 [some (2, 48, 0), some (0, 0, a1), some (0, 0, a2)] [(0, 0, b0)] σ := fw_on hG [11, 22, 41, 65, 72, 82, 110, 124, 131] 200 h
theorem fs_readNote_72 {G : fw_K} {R : fw_KR} (hG : fw_cls st_readNote R G) {a1 a2 : Int} {σ : ab_SG} (h : sp_needNumber [(2, 1, 0), (0, 0, 1), (0, 0, 9)] σ (fun rv σ2 => G 82 [some (2, 48, 0), some (0, 0, a1), some (0, 0, a2)] (rv.toList ++ []) σ2)) : G 72 [some (2, 48, 0), some (0, 0, a1), some (0, 0, a2)] [] σ := fw_on hG [11, 22, 41, 65, 72, 82, 110, 124, 131] 200 h
theorem fs_readNote_82 {G : fw_K} {R : fw_KR} (hG : fw_cls st_readNote R G) {a1 a2 b0 : Int} {σ : ab_SG} (h : (fw_c b0 ≠ 0 → sp_put [(2, 51, 0), (0, 0, (a1 * 9) + a2), (0, 0, σ 1 8)] σ (fun rv σ2 => G 110 [some (2, 48, 0), some (0, 0, a1), some (0, 0, a2)] (rv.toList ++ []) σ2)) ∧ (fw_c b0 = 0 → (0 ≤ fw_c 0 ∧ fw_c 0 ≤ 1) ∧ R (some (0, 0, 0)) σ)) : G 82 [some (2, 48, 0), some (0, 0, a1), some (0, 0, a2)] [(0, 0, b0)] σ := fw_on hG [11, 22, 41, 65, 72, 82, 110, 124, 131] 200 h
theorem fs_readNote_110 {G : fw_K} {R : fw_KR} (hG : fw_cls st_readNote R G) {a1 a2 : Int} {σ : ab_SG} (h : sp_put [(2, 52, 0), (0, 0, a1), (0, 0, a2 + 1)] σ (fun rv σ2 => G 124 [some (2, 48, 0), some (0, 0, a1), some (0, 0, a2)] (rv.toList ++ []) σ2)) : G 110 [some (2, 48, 0), some (0, 0, a1), some (0, 0, a2)] [] σ := fw_on hG [11, 22, 41, 65, 72, 82, 110, 124, 131] 200 h
theorem fs_readNote_124 {G : fw_K} {R : fw_KR} (hG : fw_cls st_readNote R G) {a1 a2 : Int} {σ : ab_SG} (h : sp_step [(2, 1, 0)] σ (fun rv σ2 => G 131 [some (2, 48, 0), some (0, 0, a1), some (0, 0, a2)] (rv.toList ++ []) σ2)) : G 124 [some (2, 48, 0), some (0, 0, a1), some (0, 0, a2)] [] σ := fw_on hG [11, 22, 41, 65, 72, 82, 110, 124, 131] 200 h
theorem fs_readNote_131 {G : fw_K} {R : fw_KR} (hG : fw_cls st_readNote R G) {a1 a2 : Int} {σ : ab_SG} (h : (0 ≤ fw_c 1 ∧ fw_c 1 ≤ 1) ∧ R (some (0, 0, 1)) σ) : G 131 [some (2, 48, 0), some (0, 0, a1), some (0, 0, a2)] [] σ := fw_on hG [11, 22, 41, 65, 72, 82, 110, 124, 131] 200 h
abbrev fk_readLeft : List fw_CR := [(107, 1, true, 8, 0, sp_refuse), (113, 0, true, 8, 2, sp_step), (134, 3, false, 0, 0, sp_put), (140, 2, false, 0, 0, sp_at), (169, 2, true, 8, 1, sp_seek), (173, 2, false, 0, 0, sp_has)]
abbrev st_readLeft : fw_K → fw_KR → fw_K := fw_st vwCl nn_sh nn_kd fw_kv fw_wc (nn_KI3.map (fun x => x.1)) (nn_KJ3.map (fun x => x.1)) (nn_PF3.map (fun x => x.1)) (nn_PS3.map (fun x => x.1)) fk_readLeft 4 nn_dt32 4 1
theorem fs_readLeft_0 {G : fw_K} {R : fw_KR} (hG : fw_cls st_readLeft R G) {c : Int} {σ : ab_SG} (h : sp_seek [(2, 1, 0), (2, 57, 0), (0, 0, σ 49 11)] σ (fun rv σ2 => G 21 [some (2, 48, 0), some (0, 0, c), none, none] (rv.toList ++ []) σ2)) : G 0 [some (2, 48, 0), some (0, 0, c), none, none] [] σ := fw_on hG [21, 40, 46, 57, 74, 81] 200 h
theorem fs_readLeft_21 {G : fw_K} {R : fw_KR} (hG : fw_cls st_readLeft R G) {a1 b0 : Int} {σ : ab_SG} (h : (fw_c b0 ≠ fw_c (-1) → sp_at [(2, 54, 0), (0, 0, a1)] σ (fun rv σ2 => G 40 [some (2, 48, 0), some (0, 0, a1), some (0, 0, b0), none] (rv.toList ++ []) σ2)) ∧ (fw_c b0 = fw_c (-1) → (0 ≤ fw_c 0 ∧ fw_c 0 ≤ 1) ∧ R (some (0, 0, 0)) σ)) : G 21 [some (2, 48, 0), some (0, 0, a1), none, none] [(0, 0, b0)] σ := fw_on hG [21, 40, 46, 57, 74, 81] 200 h
theorem fs_readLeft_40 {G : fw_K} {R : fw_KR} (hG : fw_cls st_readLeft R G) {a1 a2 b0 : Int} {σ : ab_SG} (h : sp_has [(0, 0, b0), (0, 0, a2)] σ (fun rv σ2 => G 46 [some (2, 48, 0), some (0, 0, a1), some (0, 0, a2), some (0, 0, b0)] (rv.toList ++ []) σ2)) : G 40 [some (2, 48, 0), some (0, 0, a1), some (0, 0, a2), none] [(0, 0, b0)] σ := fw_on hG [21, 40, 46, 57, 74, 81] 200 h
theorem fs_readLeft_46 {G : fw_K} {R : fw_KR} (hG : fw_cls st_readLeft R G) {a1 a2 a3 b0 : Int} {σ : ab_SG} (h : (fw_c b0 = 0 → sp_put [(2, 54, 0), (0, 0, a1), (0, 0, fw_op 9 a3 (fw_op 5 1 a2))] σ (fun rv σ2 => G 74 [some (2, 48, 0), some (0, 0, a1), some (0, 0, a2), some (0, 0, a3)] (rv.toList ++ []) σ2)) ∧ (fw_c b0 ≠ 0 → sp_refuse [(2, 1, 0), (0, 0, 3)] σ (fun rv σ2 => G 57 [some (2, 48, 0), some (0, 0, a1), some (0, 0, a2), some (0, 0, a3)] (rv.toList ++ []) σ2))) : G 46 [some (2, 48, 0), some (0, 0, a1), some (0, 0, a2), some (0, 0, a3)] [(0, 0, b0)] σ := fw_on hG [21, 40, 46, 57, 74, 81] 200 h
theorem fs_readLeft_74 {G : fw_K} {R : fw_KR} (hG : fw_cls st_readLeft R G) {a1 a2 a3 : Int} {σ : ab_SG} (h : sp_step [(2, 1, 0)] σ (fun rv σ2 => G 81 [some (2, 48, 0), some (0, 0, a1), some (0, 0, a2), some (0, 0, a3)] (rv.toList ++ []) σ2)) : G 74 [some (2, 48, 0), some (0, 0, a1), some (0, 0, a2), some (0, 0, a3)] [] σ := fw_on hG [21, 40, 46, 57, 74, 81] 200 h
theorem fs_readLeft_57 {G : fw_K} {R : fw_KR} (hG : fw_cls st_readLeft R G) {a1 a2 a3 b0 : Int} {σ : ab_SG} (h : (0 ≤ fw_c b0 ∧ fw_c b0 ≤ 1) ∧ R (some (0, 0, b0)) σ) : G 57 [some (2, 48, 0), some (0, 0, a1), some (0, 0, a2), some (0, 0, a3)] [(0, 0, b0)] σ := fw_on hG [21, 40, 46, 57, 74, 81] 200 h
theorem fs_readLeft_81 {G : fw_K} {R : fw_KR} (hG : fw_cls st_readLeft R G) {a1 a2 a3 : Int} {σ : ab_SG} (h : (0 ≤ fw_c 1 ∧ fw_c 1 ≤ 1) ∧ R (some (0, 0, 1)) σ) : G 81 [some (2, 48, 0), some (0, 0, a1), some (0, 0, a2), some (0, 0, a3)] [] σ := fw_on hG [21, 40, 46, 57, 74, 81] 200 h
section
variable {l : Launch} {cy : Nat → ClassId} {ad wr cr : Nat → Nat} {D : va_G}
theorem fm_setNinth49 (hinj : nn_inj ad) : fw_H l cy ad wr cr D 37 1 sp_setNinth49 := fw_mk hinj (⟨"NameNotes$Studio", "setNinth", "(III)V"⟩, prog_8_method_14_code, 4, (Option.none : Option Jvm.ClassFile.FieldType), 3, true, 4) rfl rfl nn_KI6_ok nn_KJ6_ok nn_PF6_ok nn_PS6_ok (by decide +kernel) rfl rfl (List.forall_mem_cons.mpr ⟨fw_row nn_PM6_ok (x := 99) (k := 2) (mn := 27) (np := 3) (ob := false) (ci := 0) (⟨"NameNotes", "put", "([III)V"⟩, prog_1_method_86_code, 3, (Option.none : Option Jvm.ClassFile.FieldType), 3, false, 4) rfl (by decide +kernel) rfl rfl (by decide) (fun q => by cases q) (fm_put hinj), (fun _ h => absurd h List.not_mem_nil)⟩) (fun as σ K h => by
  obtain ⟨p, x, k, rfl, hb, h⟩ := h
  have e1 : fw_c (p * 9 + x) = p * 9 + x := fw_c_id (by omega) (by omega)
  refine ⟨rfl, fun G hG => fs_setNinth49_0 hG ⟨(55, 45), by decide, _, _, rfl, fun q => fs_setNinth49_14 hG ?_, fun q => absurd (by rw [e1]; show 0 ≤ p * 9 + x ∧ p * 9 + x < 45; omega) q⟩⟩
  rw [e1]
  exact h)
theorem fm_isNewName (hinj : nn_inj ad) : fw_H l cy ad wr cr D 23 1 sp_isNewName := fw_mk hinj (⟨"NameNotes$StudioReader", "isNewName", "()Z"⟩, prog_9_method_12_code, 2, (Option.some Jvm.ClassFile.FieldType.boolean), 0, true, 1) rfl rfl nn_KI3_ok nn_KJ3_ok nn_PF3_ok nn_PS3_ok (by decide +kernel) rfl rfl (List.forall_mem_cons.mpr ⟨fw_row nn_PM3_ok (x := 107) (k := 0) (mn := 22) (np := 1) (ob := true) (ci := 8) (⟨"NameNotes$Tape", "refuse", "(I)Z"⟩, prog_10_method_14_code, 2, (Option.some Jvm.ClassFile.FieldType.boolean), 1, true, 1) rfl (by decide +kernel) rfl rfl (by decide) (fun _ => ⟨_, _, rfl⟩) (fm_refuse hinj), (List.forall_mem_cons.mpr ⟨fw_row nn_PM3_ok (x := 198) (k := 0) (mn := 24) (np := 0) (ob := true) (ci := 8) (⟨"NameNotes$Tape", "isName", "()Z"⟩, prog_10_method_9_code, 1, (Option.some Jvm.ClassFile.FieldType.boolean), 0, true, 1) rfl (by decide +kernel) rfl rfl (by decide) (fun _ => ⟨_, _, rfl⟩) (fm_isName hinj), (List.forall_mem_cons.mpr ⟨fw_row nn_PM3_ok (x := 201) (k := 0) (mn := 25) (np := 2) (ob := true) (ci := 7) (⟨"NameNotes$StudioReader", "isIn", "([JI)Z"⟩, prog_9_method_13_code, 4, (Option.some Jvm.ClassFile.FieldType.boolean), 2, true, 1) rfl (by decide +kernel) rfl rfl (by decide) (fun _ => ⟨_, _, rfl⟩) (fm_isIn hinj), (fun _ h => absurd h List.not_mem_nil)⟩)⟩)⟩) (fun as σ K h => by
  obtain ⟨A, e, p, rfl, h, h0, h1⟩ := h
  refine ⟨rfl, fun G hG => fs_isNewName_0 hG ⟨rfl, ?_⟩⟩
  have hN := h.name
  have z3 : fw_c 3 = 3 := fw_c_id (by decide) (by decide)
  have hi := h.2.1
  refine fs_isNewName_7 hG ⟨fun z => ?_, fun z => ⟨_, rfl, fs_isNewName_18 hG ⟨fw_01, ?_⟩⟩⟩
  · have hq := hN.mp (fw_bo_ne z)
    have hw := h.word hq.1
    have b1 : σ 49 11 = A 49 11 := h.pl rfl
    have b2 : σ 49 12 = A 49 12 := h.pl rfl
    have b3 : σ 49 13 = A 49 13 := h.pl rfl
    unfold pr_new at h0 h1
    rw [if_pos hq] at h0 h1
    have at82 : (0 ≤ pr_ix A e 57 (A 49 11) p ∨ 0 ≤ pr_ix A e 58 (A 49 12) p ∨ 0 ≤ pr_ix A e 59 (A 49 13) p) → G 82 [some (2, 48, 0), none] [] σ := fun q => by
      rw [if_pos q] at h0
      exact fs_isNewName_82 hG (fs_isNewName_87 hG ⟨fun y => absurd (fw_c1.symm.trans y) (by decide), fun _ => ⟨_, rfl, fs_isNewName_100 hG ⟨fun _ => ⟨fw_01, h0 (by first | decide | (dsimp only; decide)) _ (tp_rf_M 3) (by rw [tp_rf_9, z3])⟩, fun y => absurd fw_c0 y⟩⟩⟩)
    refine ⟨(57, 9), by decide, _, rfl, ⟨by omega, by show σ 49 11 ≤ 9; omega⟩, fun j hj => h.dn (k := 57) (n := 9) (by decide) j (by omega), hw.2, ?_⟩
    rw [h.row (k := 57) (n := 9) (by decide), hw.1, b1]
    refine fs_isNewName_37 hG ⟨fun y => at82 (Or.inl (fw_bo_ne y)), fun y => ?_⟩
    have n1 := fw_bo_eq y
    refine ⟨(58, 6), by decide, _, rfl, ⟨by omega, by show σ 49 12 ≤ 6; omega⟩, fun j hj => h.dn (k := 58) (n := 6) (by decide) j (by omega), hw.2, ?_⟩
    rw [h.row (k := 58) (n := 6) (by decide), hw.1, b2]
    refine fs_isNewName_58 hG ⟨fun y => at82 (Or.inr (Or.inl (fw_bo_ne y))), fun y => ?_⟩
    have n2 := fw_bo_eq y
    refine ⟨(59, 5), by decide, _, rfl, ⟨by omega, by show σ 49 13 ≤ 5; omega⟩, fun j hj => h.dn (k := 59) (n := 5) (by decide) j (by omega), hw.2, ?_⟩
    rw [h.row (k := 59) (n := 5) (by decide), hw.1, b3]
    refine fs_isNewName_79 hG ⟨fun y => ?_, fun y => at82 (Or.inr (Or.inr (fw_bo_ne y)))⟩
    have n3 := fw_bo_eq y
    rw [if_neg (fun q => q.elim n1 (fun q => q.elim n2 n3))] at h1
    exact fs_isNewName_87 hG ⟨fun _ => ⟨fw_11, h1 rfl hq.1⟩, fun y => absurd fw_c0 y⟩
  · have hq : ¬ ((tk e p).1 = 2 ∧ tw e p < 0) := fun q => fw_bo_eq z (hN.mpr q)
    unfold pr_new at h0
    rw [if_neg hq] at h0
    exact h0 (by first | decide | (dsimp only; decide)) _ (tp_rf_M 1) (by rw [tp_rf_9, fw_c1]))
theorem fm_readNote (hinj : nn_inj ad) : fw_H l cy ad wr cr D 28 4 sp_readNote := fw_mk hinj (⟨"NameNotes$StudioReader", "readNote", "(I)Z"⟩, prog_9_method_5_code, 3, (Option.some Jvm.ClassFile.FieldType.boolean), 1, true, 1) rfl rfl nn_KI3_ok nn_KJ3_ok nn_PF3_ok nn_PS3_ok (by decide +kernel) rfl rfl (List.forall_mem_cons.mpr ⟨fw_row nn_PM3_ok (x := 107) (k := 0) (mn := 22) (np := 1) (ob := true) (ci := 8) (⟨"NameNotes$Tape", "refuse", "(I)Z"⟩, prog_10_method_14_code, 2, (Option.some Jvm.ClassFile.FieldType.boolean), 1, true, 1) rfl (by decide +kernel) rfl rfl (by decide) (fun _ => ⟨_, _, rfl⟩) (fm_refuse hinj), (List.forall_mem_cons.mpr ⟨fw_row nn_PM3_ok (x := 113) (k := 0) (mn := 10) (np := 0) (ob := true) (ci := 8) (⟨"NameNotes$Tape", "step", "()V"⟩, prog_10_method_5_code, 2, (Option.none : Option Jvm.ClassFile.FieldType), 0, true, 4) rfl (by decide +kernel) rfl rfl (by decide) (fun _ => ⟨_, _, rfl⟩) (fm_step hinj), (List.forall_mem_cons.mpr ⟨fw_row nn_PM3_ok (x := 134) (k := 2) (mn := 27) (np := 3) (ob := false) (ci := 0) (⟨"NameNotes", "put", "([III)V"⟩, prog_1_method_86_code, 3, (Option.none : Option Jvm.ClassFile.FieldType), 3, false, 4) rfl (by decide +kernel) rfl rfl (by decide) (fun q => by cases q) (fm_put hinj), (List.forall_mem_cons.mpr ⟨fw_row nn_PM3_ok (x := 140) (k := 2) (mn := 29) (np := 2) (ob := false) (ci := 0) (⟨"NameNotes", "at", "([II)I"⟩, prog_1_method_84_code, 2, (Option.some Jvm.ClassFile.FieldType.int), 2, false, 0) rfl (by decide +kernel) rfl rfl (by decide) (fun q => by cases q) (fm_at hinj), (List.forall_mem_cons.mpr ⟨fw_row nn_PM3_ok (x := 144) (k := 0) (mn := 30) (np := 2) (ob := true) (ci := 8) (⟨"NameNotes$Tape", "needNumber", "(II)Z"⟩, prog_10_method_12_code, 3, (Option.some Jvm.ClassFile.FieldType.boolean), 2, true, 1) rfl (by decide +kernel) rfl rfl (by decide) (fun _ => ⟨_, _, rfl⟩) (fm_needNumber hinj), (fun _ h => absurd h List.not_mem_nil)⟩)⟩)⟩)⟩)⟩) (fun as σ K h => by
  obtain ⟨x, A, e, p, rfl, h, hx, h0, h1⟩ := h
  have ex : fw_c x = x := fw_c_id (by omega) (by omega)
  have z9 : fw_c 9 = 9 := fw_c_id (by decide) (by decide)
  have z4 : fw_c 4 = 4 := fw_c_id (by decide) (by decide)
  have hxn : x.toNat < 9 := by omega
  have hs := h.2.1.2.2.2.2.2.2.1 x.toNat hxn
  have e52 : σ 52 x.toNat = A 52 x.toNat := h.pl rfl
  refine ⟨rfl, fun G hG => fs_readNote_0 hG ⟨(52, 9), by decide, x, rfl, fun q => fs_readNote_11 hG ?_, fun q => absurd (by rw [ex]; show 0 ≤ x ∧ x < 9; omega) q⟩⟩
  rw [ex, e52]
  have es : fw_c (A 52 x.toNat) = A 52 x.toNat := fw_c_id (by omega) (by omega)
  unfold pr_note at h0 h1
  refine h.num (by decide) (fun q => ?_) (fun q q8 qa qb => ?_)
  · rw [if_pos q] at h0
    exact fun σ' a b => fs_readNote_22 hG ⟨fun y => absurd fw_c0 y, fun _ => ⟨fw_01, h0 q σ' a b⟩⟩
  · rw [if_neg (fun y => y q)] at h0 h1
    refine fs_readNote_22 hG ⟨fun _ => ?_, fun y => absurd (fw_c1.symm.trans y) (by decide)⟩
    rw [es, z9]
    refine ⟨fun q9 => ?_, fun q9 => ?_⟩
    · rw [if_neg (show ¬ 9 ≤ A 52 x.toNat by omega)] at h0 h1
      have ei : fw_c (x * 9 + A 52 x.toNat) = x * 9 + A 52 x.toNat := fw_c_id (by omega) (by omega)
      have ev : fw_c (σ 1 8) = (tk e p).2.2.2.2 := by rw [q8]; exact fw_c_id (by omega) (by omega)
      refine ⟨(50, 81), by decide, _, _, rfl, fun _ => fs_readNote_65 hG ?_, fun y => absurd (by rw [ei]; show 0 ≤ x * 9 + A 52 x.toNat ∧ x * 9 + A 52 x.toNat < 81; omega) y⟩
      rw [ei, ev]
      have H1 : RD (ab_ups σ 50 (x * 9 + A 52 x.toNat).toNat (tk e p).2.2.2.2) (ab_ups A 50 (x * 9 + A 52 x.toNat).toNat (tk e p).2.2.2.2) e p := h.ups (by decide) h.2.1
      have M1 : ab_okM rd_M σ (ab_ups σ 50 (x * 9 + A 52 x.toNat).toNat (tk e p).2.2.2.2) := fw_okM_upa (fw_okM_refl _ _) (by decide)
      generalize ab_ups σ 50 (x * 9 + A 52 x.toNat).toNat (tk e p).2.2.2.2 = σ1 at H1 M1 ⊢
      refine ⟨rfl, H1.st.1, fun σ2 M2 S2 => fs_readNote_72 hG ?_⟩
      have H2 := H1.st.2 σ2 M2 S2
      have M3 : ab_okM rd_M σ σ2 := fw_okM_tr M1 M2 (by decide)
      refine H2.num (by decide) (fun q2 => ?_) (fun q2 p8 pa pb => ?_)
      · rw [if_pos q2] at h0
        exact fun σ' a b => fs_readNote_82 hG ⟨fun y => absurd fw_c0 y, fun _ => ⟨fw_01, h0 q2 σ' (fw_okM_tr M3 a (by decide)) b⟩⟩
      · rw [if_neg (fun y => y q2)] at h1
        have ew : fw_c (σ2 1 8) = (tk e (tn e p)).2.2.2.2 := by rw [p8]; exact fw_c_id (by omega) (by omega)
        refine fs_readNote_82 hG ⟨fun _ => ?_, fun y => absurd (fw_c1.symm.trans y) (by decide)⟩
        refine ⟨(51, 81), by decide, _, _, rfl, fun _ => fs_readNote_110 hG ?_, fun y => absurd (by rw [ei]; show 0 ≤ x * 9 + A 52 x.toNat ∧ x * 9 + A 52 x.toNat < 81; omega) y⟩
        rw [ei, ew]
        have H3 := H2.ups (k := 51) (j := (x * 9 + A 52 x.toNat).toNat) (v := (tk e (tn e p)).2.2.2.2) (by decide) h.2.1
        have M4 : ab_okM rd_M σ (ab_ups σ2 51 (x * 9 + A 52 x.toNat).toNat (tk e (tn e p)).2.2.2.2) := fw_okM_upa M3 (by decide)
        generalize ab_ups σ2 51 (x * 9 + A 52 x.toNat).toNat (tk e (tn e p)).2.2.2.2 = σ3 at H3 M4 ⊢
        refine ⟨(52, 9), by decide, _, _, rfl, fun _ => fs_readNote_124 hG ?_, fun y => absurd (by rw [ex]; show 0 ≤ x ∧ x < 9; omega) y⟩
        have e1 : fw_c (A 52 x.toNat + 1) = A 52 x.toNat + 1 := fw_c_id (by omega) (by omega)
        rw [ex, e1]
        have H4 := H3.ups (k := 52) (j := x.toNat) (v := A 52 x.toNat + 1) (by decide) ⟨h.2.1.1, h.2.1.2.1, h.2.1.2.2.1, h.2.1.2.2.2.1, h.2.1.2.2.2.2.1, h.2.1.2.2.2.2.2.1, fun j hj => by
          by_cases ej : j = x.toNat
          · rw [ej, ab_ups_eq]; omega
          · rw [ab_ups_ne (fun y => ej y.2)]; exact h.2.1.2.2.2.2.2.2.1 j hj, h.2.1.2.2.2.2.2.2.2⟩
        have M5 : ab_okM rd_M σ (ab_ups σ3 52 x.toNat (A 52 x.toNat + 1)) := fw_okM_upa M4 (by decide)
        generalize ab_ups σ3 52 x.toNat (A 52 x.toNat + 1) = σ4 at H4 M5 ⊢
        refine ⟨rfl, H4.st.1, fun σ5 M6 S6 => fs_readNote_131 hG ⟨fw_11, h1 rfl σ5 (fw_okM_tr M5 M6 (by decide)) (H4.st.2 σ5 M6 S6)⟩⟩
    · rw [if_pos q9] at h0
      exact ⟨_, rfl, fs_readNote_41 hG ⟨fw_01, h0 (by first | decide | (dsimp only; decide)) _ (tp_rf_M 4) (by rw [tp_rf_9, z4])⟩⟩)
theorem fm_readLeft (hinj : nn_inj ad) : fw_H l cy ad wr cr D 32 4 sp_readLeft := fw_mk hinj (⟨"NameNotes$StudioReader", "readLeft", "(I)Z"⟩, prog_9_method_7_code, 4, (Option.some Jvm.ClassFile.FieldType.boolean), 1, true, 1) rfl rfl nn_KI3_ok nn_KJ3_ok nn_PF3_ok nn_PS3_ok (by decide +kernel) rfl rfl (List.forall_mem_cons.mpr ⟨fw_row nn_PM3_ok (x := 107) (k := 0) (mn := 22) (np := 1) (ob := true) (ci := 8) (⟨"NameNotes$Tape", "refuse", "(I)Z"⟩, prog_10_method_14_code, 2, (Option.some Jvm.ClassFile.FieldType.boolean), 1, true, 1) rfl (by decide +kernel) rfl rfl (by decide) (fun _ => ⟨_, _, rfl⟩) (fm_refuse hinj), (List.forall_mem_cons.mpr ⟨fw_row nn_PM3_ok (x := 113) (k := 0) (mn := 10) (np := 0) (ob := true) (ci := 8) (⟨"NameNotes$Tape", "step", "()V"⟩, prog_10_method_5_code, 2, (Option.none : Option Jvm.ClassFile.FieldType), 0, true, 4) rfl (by decide +kernel) rfl rfl (by decide) (fun _ => ⟨_, _, rfl⟩) (fm_step hinj), (List.forall_mem_cons.mpr ⟨fw_row nn_PM3_ok (x := 134) (k := 2) (mn := 27) (np := 3) (ob := false) (ci := 0) (⟨"NameNotes", "put", "([III)V"⟩, prog_1_method_86_code, 3, (Option.none : Option Jvm.ClassFile.FieldType), 3, false, 4) rfl (by decide +kernel) rfl rfl (by decide) (fun q => by cases q) (fm_put hinj), (List.forall_mem_cons.mpr ⟨fw_row nn_PM3_ok (x := 140) (k := 2) (mn := 29) (np := 2) (ob := false) (ci := 0) (⟨"NameNotes", "at", "([II)I"⟩, prog_1_method_84_code, 2, (Option.some Jvm.ClassFile.FieldType.int), 2, false, 0) rfl (by decide +kernel) rfl rfl (by decide) (fun q => by cases q) (fm_at hinj), (List.forall_mem_cons.mpr ⟨fw_row nn_PM3_ok (x := 169) (k := 0) (mn := 33) (np := 2) (ob := true) (ci := 8) (⟨"NameNotes$Tape", "seek", "([JI)I"⟩, prog_10_method_11_code, 4, (Option.some Jvm.ClassFile.FieldType.int), 2, true, 0) rfl (by decide +kernel) rfl rfl (by decide) (fun _ => ⟨_, _, rfl⟩) (fm_seek hinj), (List.forall_mem_cons.mpr ⟨fw_row nn_PM3_ok (x := 173) (k := 2) (mn := 34) (np := 2) (ob := false) (ci := 0) (⟨"NameNotes", "has", "(II)Z"⟩, prog_1_method_80_code, 2, (Option.some Jvm.ClassFile.FieldType.boolean), 2, false, 1) rfl (by decide +kernel) rfl rfl (by decide) (fun q => by cases q) (fm_has hinj), (fun _ h => absurd h List.not_mem_nil)⟩)⟩)⟩)⟩)⟩)⟩) (fun as σ K h => by
  obtain ⟨c, A, e, p, rfl, h, hc, h0, h1⟩ := h
  have ec : fw_c c = c := fw_c_id (by omega) (by omega)
  have em : fw_c (-1) = -1 := fw_c_id (by decide) (by decide)
  have z3 : fw_c 3 = 3 := fw_c_id (by decide) (by decide)
  have b1 : σ 49 11 = A 49 11 := h.pl rfl
  have hi := h.2.1
  have e54 : σ 54 c.toNat = A 54 c.toNat := h.pl rfl
  unfold pr_left at h0 h1
  refine ⟨rfl, fun G hG => fs_readLeft_0 hG ?_⟩
  rw [b1]
  refine h.seek (n := 9) (by decide) ⟨by omega, by show A 49 11 ≤ 9; omega⟩ (fun q => ?_) (fun q q1 q2 => ?_)
  · rw [if_pos q] at h0
    exact fun σ' a b => fs_readLeft_21 hG ⟨fun y => absurd rfl y, fun _ => ⟨fw_01, h0 q σ' a b⟩⟩
  · rw [if_neg (fun y => y q)] at h0 h1
    generalize hx : pr_ix A e 57 (A 49 11) p = x at h0 h1 q1 q2 ⊢
    have ex : fw_c x = x := fw_c_id (by omega) (by omega)
    refine fs_readLeft_21 hG ⟨fun _ => ?_, fun y => absurd y (by rw [ex, em]; omega)⟩
    refine ⟨(54, 6), by decide, _, rfl, fun _ => ?_, fun y => absurd (by rw [ec]; show 0 ≤ c ∧ c < 6; omega) y⟩
    rw [ec, e54]
    refine fs_readLeft_40 hG ⟨_, _, rfl, by rw [ex]; omega, ?_⟩
    refine fs_readLeft_46 hG ⟨fun y => ?_, fun y => ⟨_, rfl, fs_readLeft_57 hG ⟨fw_01, ?_⟩⟩⟩
    · have hn := fw_bo_eq y
      have hf : pr_hs (A 54 c.toNat) x = false := by unfold pr_hs; exact decide_eq_false hn
      rw [hf] at h0 h1
      refine ⟨(54, 6), by decide, _, _, rfl, fun _ => fs_readLeft_74 hG ?_, fun y => absurd (by rw [ec]; show 0 ≤ c ∧ c < 6; omega) y⟩
      rw [ec]
      have H1 := h.ups (k := 54) (j := c.toNat) (v := pr_or (A 54 c.toNat) x) (by decide) hi
      have M1 : ab_okM rd_M σ (ab_ups σ 54 c.toNat (pr_or (A 54 c.toNat) x)) := fw_okM_upa (fw_okM_refl _ _) (by decide)
      replace h1 := h1 rfl
      show sp_step [(2, 1, 0)] (ab_ups σ 54 c.toNat (pr_or (A 54 c.toNat) x)) _
      generalize ab_ups σ 54 c.toNat (pr_or (A 54 c.toNat) x) = σ1 at H1 M1 ⊢
      exact ⟨rfl, H1.st.1, fun σ2 M2 S2 => fs_readLeft_81 hG ⟨fw_11, h1 σ2 (fw_okM_tr M1 M2 (by decide)) (H1.st.2 σ2 M2 S2)⟩⟩
    · have hp := fw_bo_ne y
      have hf : pr_hs (A 54 c.toNat) x = true := by unfold pr_hs; exact decide_eq_true hp
      rw [hf, if_pos rfl] at h0
      exact h0 (by first | decide | (dsimp only; decide)) _ (tp_rf_M 3) (by rw [tp_rf_9, z3]))
end
