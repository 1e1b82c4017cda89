section
/-! LIKE (how 0) is one and the same for all of a group -/
end
section
/-! questions that ask for odds -/
theorem oz_c_pe {σ A : ab_SG} (h : NC σ A) {x : Int} (hx : fw_c x = x) : m_b (c_pe σ x) = fw_bo (0 ≤ x ∧ x < A 49 13) := by
  have n := N_n h.1
  unfold c_pe
  rw [hx, (NC_n h).2.2, fw_s (x := A 49 13) (by omega) (by omega)]
  by_cases q : 0 ≤ x ∧ x < A 49 13
  · rw [fw_bo_t q, m_b1 q.1 q.2]
  · rw [fw_bo_f q, m_b0 q]
theorem oz_m_pe {σ A : ab_SG} (h : NM σ A) {x : Int} (hx : fw_c x = x) : m_b (m_pe σ x) = fw_bo (0 ≤ x ∧ x < A 49 13) := by
  have n := N_n h.1
  unfold m_pe
  rw [hx, (NM_n h).2.2, fw_s (x := A 49 13) (by omega) (by omega)]
  by_cases q : 0 ≤ x ∧ x < A 49 13
  · rw [fw_bo_t q, m_b1 q.1 q.2]
  · rw [fw_bo_f q, m_b0 q]
theorem oz_clue {A : ab_SG} (hi : RI A) (hb : nb_is A) {c : Int} (h1 : 0 ≤ c) (h2 : c < A 49 12) : (1 ≤ v_set A c ∧ v_set A c < 512) ∧ ∀ z : Nat, z < 9 → pr_hs (v_set A c) (z : Int) = true → (z : Int) < A 49 11 := by
  have b := v_set_512 hi hb (c := c) (by omega) h2
  refine ⟨⟨?_, b.2⟩, fun z hz q => v_set_top hi hb (by omega) h2 hz q⟩
  unfold v_set
  rw [if_neg (by omega)]
  have := (hb.2.1 c.toNat (by omega)).1
  exact this
theorem od_up {M N : ab_ML} {σ σ' : ab_SG} (h : ab_okM M σ σ') (hm : M.all (fun q => N.any (fun r => r.1.beq q.1 && (r.2.beq q.2 || r.2.beq 1000000))) = true) : ab_okM N σ σ' := by
  intro a b q
  refine h a b (fun r hr w => ?_)
  obtain ⟨t, ht, h2⟩ := List.any_eq_true.mp (List.all_eq_true.mp hm r hr)
  rw [Bool.and_eq_true, Bool.or_eq_true] at h2
  refine q t ht ⟨(Nat.eq_of_beq_eq_true h2.1).trans w.1, ?_⟩
  rcases h2.2 with e | e
  · rw [Nat.eq_of_beq_eq_true e]; exact w.2
  · exact Or.inr (Nat.eq_of_beq_eq_true e)
/-- rows that nothing speaks of -/
def fr_L : List Nat := [1, 2, 3, 18, 33, 85, 93, 94, 95, 97, 102] ++ (sw_T.map (fun q => q.1) ++ sw_L.map (fun q => q.1))
theorem vW_free {M : ab_ML} {σ σ1 σm : ab_SG} (hm : M.all (fun q => fr_L.all (fun k => !(q.1.beq k))) = true) (h1 : ab_okM M σ σ1) (hv : vW σm σ1) : vW σm σ := by
  have e : ∀ k j : Nat, k ∈ fr_L → σ1 k j = σ k j := fun k j hk => h1 k j (fun q hq hh => by
    have g := List.all_eq_true.mp (List.all_eq_true.mp hm q hq) k hk
    rw [hh.1, show k.beq k = true from Nat.beq_refl k] at g
    cases g)
  have hT : ∀ q ∈ sw_T, q.1 ∈ fr_L := fun q hq => List.mem_append_right _ (List.mem_append_left _ (List.mem_map.mpr ⟨q, hq, rfl⟩))
  have hL : ∀ q ∈ sw_L, q.1 ∈ fr_L := fun q hq => List.mem_append_right _ (List.mem_append_right _ (List.mem_map.mpr ⟨q, hq, rfl⟩))
  have c : ∀ k : Nat, k ∈ [1, 2, 3, 18, 33, 85, 93, 94, 95, 97, 102] → k ∈ fr_L := fun k hk => List.mem_append_left _ hk
  have su_in : ∀ k j : Nat, su k j → k ∈ fr_L := by
    intro k j h
    unfold su at h
    rcases h with h | h | h | h | h | h | h | h | h | h <;> (rw [h.1]; exact c _ (by decide))
  have sw_in : ∀ k j : Nat, sw k j → k ∈ fr_L := by
    intro k j h
    rcases h with ⟨q, hq, rfl, -⟩ | ⟨rfl, -⟩ | ⟨rfl, -⟩
    · exact hT q hq
    · exact c _ (by decide)
    · exact c _ (by decide)
  refine ⟨fun k j hs => ?_, fun k j hs => ?_⟩
  · rw [hv.1 k j hs, e k j (hs.elim (su_in k j) (sw_in k j))]
  · obtain ⟨q, hq, rfl, hj⟩ := hs
    rw [hv.2 _ j ⟨q, hq, rfl, hj⟩, e _ j (hL q hq)]
section
variable {l : Launch} {cy : Nat → ClassId} {ad wr cr : Nat → Nat} {D : va_G}
end
end
section
/-! nights: what is drawn, who bids, who names it -/
def nt_s (z : Int) : Int := fw_c (z * 1103515245 + 12345)
def nt_v (z n : Int) : Int := fw_op 4 (fw_op 7 (nt_s z) 8) n
theorem nt_u (x : Int) : 0 ≤ fw_op 7 x 8 ∧ fw_op 7 x 8 < 16777216 := by
  have e : fw_op 7 x 8 = ((Int32.ofInt x).toBitVec >>> 8).toInt := rfl
  have h : ((Int32.ofInt x).toBitVec >>> 8).toNat < 16777216 := by
    rw [BitVec.toNat_ushiftRight, Nat.shiftRight_eq_div_pow]
    have := (Int32.ofInt x).toBitVec.isLt
    omega
  rw [e, BitVec.toInt_eq_toNat_of_lt (by omega)]
  omega
theorem nt_dv {x y : Nat} (hx : x ≤ 16777216) (h1 : 1 ≤ y) (hy : y ≤ 1000) : (Int32.ofInt (x : Int) / Int32.ofInt (y : Int)).toInt = ((x / y : Nat) : Int) := by
  have b : x / y ≤ x := Nat.div_le_self x y
  rw [Int32.toInt_div, Int32.toInt_ofInt_of_le (by omega) (by omega), Int32.toInt_ofInt_of_le (by omega) (by omega), Int.tdiv_eq_ediv_of_nonneg (by omega), ← Int.natCast_ediv]
  generalize x / y = z at b ⊢
  exact Int.bmod_eq_of_le (by omega) (by omega)
theorem nt_rm {x y : Nat} (hx : x ≤ 16777216) (h1 : 1 ≤ y) (hy : y ≤ 1000) : fw_op 4 (x : Int) (y : Int) = ((x % y : Nat) : Int) := by
  have e1 : Int32.ofInt (x : Int) / Int32.ofInt (y : Int) = Int32.ofInt ((x / y : Nat) : Int) := by
    rw [← nt_dv hx h1 hy]
    exact (Int32.ofInt_toInt _).symm
  have b : x / y ≤ x := Nat.div_le_self x y
  have r : x % y < y := Nat.mod_lt x (by omega)
  have d := Nat.div_add_mod x y
  have c : x / y * y = y * (x / y) := Nat.mul_comm _ _
  show (Int32.ofInt (x : Int) - Int32.ofInt (x : Int) / Int32.ofInt (y : Int) * Int32.ofInt (y : Int)).toInt = _
  rw [e1, ← Int32.ofInt_mul, ← Int32.ofInt_sub, ← Int.natCast_mul, show (x : Int) - ((x / y * y : Nat) : Int) = ((x % y : Nat) : Int) by omega]
  exact Int32.toInt_ofInt_of_le (by omega) (by omega)
theorem nt_v_in {z n : Int} (h1 : 1 ≤ n) (h2 : n ≤ 1000) : 0 ≤ nt_v z n ∧ nt_v z n < n := by
  have u := nt_u (nt_s z)
  unfold nt_v
  generalize fw_op 7 (nt_s z) 8 = x at u ⊢
  obtain ⟨a, rfl⟩ := Int.eq_ofNat_of_zero_le u.1
  obtain ⟨b, rfl⟩ := Int.eq_ofNat_of_zero_le (show 0 ≤ n by omega)
  rw [nt_rm (x := a) (y := b) (by omega) (by omega) (by omega)]
  have := Nat.mod_lt a (show b > 0 by omega)
  omega
/-- the k-th of a set -/
def mb_f (s k : Int) : Nat → Nat → Int → Int
  | 0, _, _ => -1
  | f + 1, x, a => if pr_hs s (x : Int) = true then (if a = k then (x : Int) else mb_f s k f (x + 1) (a + 1)) else mb_f s k f (x + 1) a
def mb (s k : Int) : Int := mb_f s k 9 0 0
theorem mb_s (s k : Int) (f x : Nat) (a : Int) : mb_f s k (f + 1) x a = if pr_hs s (x : Int) = true then (if a = k then (x : Int) else mb_f s k f (x + 1) (a + 1)) else mb_f s k f (x + 1) a := rfl
theorem mb_ok {s k : Int} (h : k < ((oz_cnt (oz_P s) 9 : Nat) : Int)) : ∀ (f x : Nat) (a : Int), x + f = 9 → a = ((oz_cnt (oz_P s) x : Nat) : Int) → a ≤ k → ∃ y : Nat, y < 9 ∧ mb_f s k f x a = (y : Int) ∧ pr_hs s (y : Int) = true := by
  intro f
  induction f with
  | zero =>
    intro x a hx ha hk
    have e : x = 9 := by omega
    subst e
    omega
  | succ f ih =>
    intro x a hx ha hk
    rw [mb_s]
    by_cases c : pr_hs s (x : Int) = true
    · rw [if_pos c]
      by_cases d : a = k
      · rw [if_pos d]
        exact ⟨x, by omega, rfl, c⟩
      · rw [if_neg d]
        refine ih (x + 1) (a + 1) (by omega) ?_ (by omega)
        show a + 1 = ((cond (oz_P s x) (oz_cnt (oz_P s) x + 1) (oz_cnt (oz_P s) x) : Nat) : Int)
        rw [show oz_P s x = true from c, ha]
        rfl
    · rw [if_neg c]
      refine ih (x + 1) a (by omega) ?_ hk
      show a = ((cond (oz_P s x) (oz_cnt (oz_P s) x + 1) (oz_cnt (oz_P s) x) : Nat) : Int)
      rw [show oz_P s x = false from Bool.eq_false_iff.mpr c, ha]
      rfl
theorem mb_in {s k : Int} (h0 : 0 ≤ k) (h : k < ((oz_cnt (oz_P s) 9 : Nat) : Int)) : ∃ y : Nat, y < 9 ∧ mb s k = (y : Int) ∧ pr_hs s (y : Int) = true := mb_ok h 9 0 0 rfl rfl h0
/-- of the tunes of a set below one, by draws of nine: the seed, and which she knows -/
def nt_k (A : ab_SG) (p : Nat) (s : Int) (z : Int) : Nat → Int × Int
  | 0 => (z, 0)
  | y + 1 => if pr_hs s (y : Int) = true then (nt_s (nt_k A p s z y).1, if nt_v (nt_k A p s z y).1 9 < A 55 (9 * p + y) then fw_op 9 (nt_k A p s z y).2 (fw_op 5 1 (y : Int)) else (nt_k A p s z y).2) else nt_k A p s z y
theorem nt_ks (A : ab_SG) (p : Nat) (s z : Int) (y : Nat) : nt_k A p s z (y + 1) = if pr_hs s (y : Int) = true then (nt_s (nt_k A p s z y).1, if nt_v (nt_k A p s z y).1 9 < A 55 (9 * p + y) then fw_op 9 (nt_k A p s z y).2 (fw_op 5 1 (y : Int)) else (nt_k A p s z y).2) else nt_k A p s z y := rfl
theorem nt_k_b (A : ab_SG) (p : Nat) (s z : Int) : ∀ y : Nat, y ≤ 9 → 0 ≤ (nt_k A p s z y).2 ∧ (nt_k A p s z y).2 < 512 := by
  intro y
  induction y with
  | zero => intro _; exact ⟨Int.le_refl _, show (0 : Int) < 512 by decide⟩
  | succ y ih =>
    intro hy
    have i := ih (by omega)
    rw [nt_ks]
    by_cases c : pr_hs s (y : Int) = true
    · rw [if_pos c]
      show 0 ≤ (if nt_v (nt_k A p s z y).1 9 < A 55 (9 * p + y) then fw_op 9 (nt_k A p s z y).2 (fw_op 5 1 (y : Int)) else (nt_k A p s z y).2) ∧ (if nt_v (nt_k A p s z y).1 9 < A 55 (9 * p + y) then fw_op 9 (nt_k A p s z y).2 (fw_op 5 1 (y : Int)) else (nt_k A p s z y).2) < 512
      by_cases d : nt_v (nt_k A p s z y).1 9 < A 55 (9 * p + y)
      · rw [if_pos d]
        exact hs_ob i.1 i.2 (by omega)
      · rw [if_neg d]
        exact i
    · rw [if_neg c]
      exact i
theorem nt_k_h (A : ab_SG) (p : Nat) (s z : Int) {w : Nat} (hw : w < 9) : ∀ y : Nat, y ≤ 9 → pr_hs (nt_k A p s z y).2 (w : Int) = true → w < y ∧ pr_hs s (w : Int) = true := by
  intro y
  induction y with
  | zero =>
    intro _ h
    have e : pr_hs 0 (w : Int) = true := h
    rw [hs_0 w hw] at e
    cases e
  | succ y ih =>
    intro hy h
    have i := nt_k_b A p s z y (by omega)
    rw [nt_ks] at h
    by_cases c : pr_hs s (y : Int) = true
    · rw [if_pos c] at h
      replace h : pr_hs (if nt_v (nt_k A p s z y).1 9 < A 55 (9 * p + y) then fw_op 9 (nt_k A p s z y).2 (fw_op 5 1 (y : Int)) else (nt_k A p s z y).2) (w : Int) = true := h
      by_cases d : nt_v (nt_k A p s z y).1 9 < A 55 (9 * p + y)
      · rw [if_pos d, hs_or i.1 i.2 (by omega) hw, Bool.or_eq_true] at h
        rcases h with h | h
        · have g := ih (by omega) h
          exact ⟨by omega, g.2⟩
        · have e := Nat.eq_of_beq_eq_true h
          subst e
          exact ⟨by omega, c⟩
      · rw [if_neg d] at h
        have g := ih (by omega) h
        exact ⟨by omega, g.2⟩
    · rw [if_neg c] at h
      have g := ih (by omega) h
      exact ⟨by omega, g.2⟩
theorem nt_k_T (A : ab_SG) (p : Nat) (s z : Int) {T : Nat} (hs : ∀ w : Nat, w < 9 → pr_hs s (w : Int) = true → w < T) : ∀ d : Nat, T + d ≤ 9 → nt_k A p s z (T + d) = nt_k A p s z T := by
  intro d
  induction d with
  | zero => intro _; rfl
  | succ d ih =>
    intro h
    rw [show T + (d + 1) = (T + d) + 1 from rfl, nt_ks, if_neg (fun c => by have := hs (T + d) (by omega) c; omega)]
    exact ih (by omega)
/-- she bids: n notes would do -/
abbrev nt_w (A : ab_SG) (p : Nat) (m : Int) (x n : Nat) : Prop := 1 ≤ n ∧ pr_hs m (x : Int) = true ∧ ((oz_cnt (oz_P (v_lk A (x : Int) (n : Int) 0 m (A 49 11).toNat)) 9 : Nat) : Int) - 1 ≤ 9 - A 56 p
/-- the last bid, and who bid it -/
def nt_b (A : ab_SG) (P : Nat → Nat) (M : Nat → Int) (x : Nat) : Nat → Nat → Nat × Nat
  | 0, s => (0, s)
  | n + 1, s => if nt_w A (P (1 - s)) (M (1 - s)) x n then nt_b A P M x n (1 - s) else (n + 1, s)
theorem nt_bs (A : ab_SG) (P : Nat → Nat) (M : Nat → Int) (x n s : Nat) : nt_b A P M x (n + 1) s = if nt_w A (P (1 - s)) (M (1 - s)) x n then nt_b A P M x n (1 - s) else (n + 1, s) := rfl
theorem nt_b_in (A : ab_SG) (P : Nat → Nat) (M : Nat → Int) (x : Nat) : ∀ (n s : Nat), 1 ≤ n → s < 2 → (1 ≤ (nt_b A P M x n s).1 ∧ (nt_b A P M x n s).1 ≤ n) ∧ (nt_b A P M x n s).2 < 2 := by
  intro n
  induction n with
  | zero => intro s h _; omega
  | succ n ih =>
    intro s h hs
    rw [nt_bs]
    by_cases c : nt_w A (P (1 - s)) (M (1 - s)) x n
    · rw [if_pos c]
      have g := ih (1 - s) c.1 (by omega)
      omega
    · rw [if_neg c]
      exact ⟨⟨by show 1 ≤ n + 1; omega, Nat.le_refl _⟩, hs⟩
def nr_s (A : ab_SG) (z : Int) : Int := A 54 (nt_v z (A 49 12)).toNat
def nr_n (s : Int) : Int := ((oz_cnt (oz_P s) 9 : Nat) : Int)
def nr_x (A : ab_SG) (z : Int) : Nat := (mb (nr_s A z) (nt_v (nt_s z) (nr_n (nr_s A z)))).toNat
def nr_0 (A : ab_SG) (p : Nat) (z : Int) : Int × Int := nt_k A p (nr_s A z) (nt_s (nt_s z)) 9
def nr_1 (A : ab_SG) (p q : Nat) (z : Int) : Int × Int := nt_k A q (nr_s A z) (nr_0 A p z).1 9
def nr_P (p q : Nat) : Nat → Nat := fun s => if s = 0 then p else q
def nr_M (A : ab_SG) (p q : Nat) (z : Int) : Nat → Int := fun s => if s = 0 then (nr_0 A p z).2 else (nr_1 A p q z).2
def nr_b (A : ab_SG) (p q first : Nat) (z : Int) : Nat × Nat := nt_b A (nr_P p q) (nr_M A p q z) (nr_x A z) (A 49 14).toNat first
def nr_l (A : ab_SG) (p q first : Nat) (z : Int) : Int := v_lk A (nr_x A z : Int) ((nr_b A p q first z).1 : Int) 0 (nr_M A p q z (nr_b A p q first z).2) (A 49 11).toNat
def nr_z (A : ab_SG) (p q first : Nat) (z : Int) : Int := if nr_l A p q first z = 0 then (nr_1 A p q z).1 else nt_s (nr_1 A p q z).1
abbrev nr_G (A : ab_SG) (p q first : Nat) (z : Int) : Prop := nr_l A p q first z ≠ 0 ∧ mb (nr_l A p q first z) (nt_v (nr_1 A p q z).1 (nr_n (nr_l A p q first z))) = (nr_x A z : Int)
def nr_g (A : ab_SG) (p q first : Nat) (z : Int) : Nat := if nr_G A p q first z then 1 else 0
def nr_w (A : ab_SG) (p q first : Nat) (z : Int) : Nat := if nr_G A p q first z then (nr_b A p q first z).2 else 1 - (nr_b A p q first z).2
def mnN (a b : Int) : Int := if b < a then b else a
/-- what a round stands on, and what it finds -/
theorem nr_ok {A : ab_SG} (hi : RI A) (hb : nb_is A) (hc : 0 < A 49 12) (z : Int) : (1 ≤ nr_s A z ∧ nr_s A z < 512) ∧ (∀ w : Nat, w < 9 → pr_hs (nr_s A z) (w : Int) = true → (w : Int) < A 49 11) ∧ (1 ≤ nr_n (nr_s A z) ∧ nr_n (nr_s A z) ≤ 9) ∧ nr_x A z < 9 ∧ mb (nr_s A z) (nt_v (nt_s z) (nr_n (nr_s A z))) = (nr_x A z : Int) ∧ (nr_x A z : Int) < A 49 11 := by
  have n := N_n hi
  have v := nt_v_in (z := z) (n := A 49 12) (by omega) (by omega)
  have c := oz_clue hi hb v.1 v.2
  have e : v_set A (nt_v z (A 49 12)) = nr_s A z := by
    unfold v_set nr_s
    rw [if_neg (by omega)]
  rw [e] at c
  have k1 := oz_cnt_pos c.1.1 c.1.2
  have k2 := oz_cnt_le (oz_P (nr_s A z)) 9
  have k : 1 ≤ nr_n (nr_s A z) ∧ nr_n (nr_s A z) ≤ 9 := by
    unfold nr_n
    omega
  have v2 := nt_v_in (z := nt_s z) (n := nr_n (nr_s A z)) k.1 (by omega)
  obtain ⟨y, y1, y2, y3⟩ := mb_in (s := nr_s A z) v2.1 v2.2
  have ex : nr_x A z = y := by
    unfold nr_x
    rw [y2]
    exact Int.toNat_natCast y
  refine ⟨c.1, c.2, k, by omega, by rw [ex]; exact y2, ?_⟩
  rw [ex]
  exact c.2 y y1 y3
theorem nr_M_b (A : ab_SG) (p q : Nat) (z : Int) (s : Nat) : (0 ≤ nr_M A p q z s ∧ nr_M A p q z s < 512) ∧ ∀ w : Nat, w < 9 → pr_hs (nr_M A p q z s) (w : Int) = true → pr_hs (nr_s A z) (w : Int) = true := by
  unfold nr_M
  by_cases c : s = 0
  · rw [if_pos c]
    exact ⟨nt_k_b A p _ _ 9 (Nat.le_refl 9), fun w hw h => (nt_k_h A p _ _ hw 9 (Nat.le_refl 9) h).2⟩
  · rw [if_neg c]
    exact ⟨nt_k_b A q _ _ 9 (Nat.le_refl 9), fun w hw h => (nt_k_h A q _ _ hw 9 (Nat.le_refl 9) h).2⟩
/-- a night so far: the seed, the points of both, rounds, rights, the least bid -/
abbrev ng_T : Type := Int × Nat × Nat × Nat × Nat × Int
def ng_1 (A : ab_SG) (p q : Nat) (t : ng_T) : ng_T :=
  (nr_z A p q (t.2.2.2.1 % 2) t.1, (if nr_w A p q (t.2.2.2.1 % 2) t.1 = 0 then t.2.1 + 1 else t.2.1), (if nr_w A p q (t.2.2.2.1 % 2) t.1 = 0 then t.2.2.1 else t.2.2.1 + 1), t.2.2.2.1 + 1, t.2.2.2.2.1 + nr_g A p q (t.2.2.2.1 % 2) t.1, mnN t.2.2.2.2.2 ((nr_b A p q (t.2.2.2.1 % 2) t.1).1 : Int))
def ng (A : ab_SG) (p q : Nat) : Nat → ng_T → ng_T
  | 0, t => t
  | f + 1, t => if t.2.1 < 3 ∧ t.2.2.1 < 3 then ng A p q f (ng_1 A p q t) else t
theorem ng_s (A : ab_SG) (p q f : Nat) (t : ng_T) : ng A p q (f + 1) t = if t.2.1 < 3 ∧ t.2.2.1 < 3 then ng A p q f (ng_1 A p q t) else t := rfl
def v_ng (A : ab_SG) (p q : Nat) (z : Int) : ng_T := ng A p q 5 (fw_c z, 0, 0, 0, 0, 9)
/-- bounds of a night so far -/
def ng_B (t : ng_T) : Prop := t.2.1 ≤ 3 ∧ t.2.2.1 ≤ 3 ∧ t.2.1 + t.2.2.1 = t.2.2.2.1 ∧ t.2.2.2.2.1 ≤ t.2.2.2.1 ∧ (1 ≤ t.2.2.2.2.2 ∧ t.2.2.2.2.2 ≤ 9) ∧ t.2.2.2.1 ≤ 5
theorem mnN_b {a b : Int} (h1 : 1 ≤ a ∧ a ≤ 9) (h2 : 1 ≤ b ∧ b ≤ 9) : 1 ≤ mnN a b ∧ mnN a b ≤ 9 := by
  unfold mnN
  split <;> omega
theorem nr_b_in {A : ab_SG} (hb : nb_is A) {p q first : Nat} (hf : first < 2) (z : Int) : (1 ≤ (nr_b A p q first z).1 ∧ (nr_b A p q first z).1 ≤ 9) ∧ (nr_b A p q first z).2 < 2 := by
  have f := hb.2.2.2.2
  have g := nt_b_in A (nr_P p q) (nr_M A p q z) (nr_x A z) (A 49 14).toNat first (by omega) hf
  show (1 ≤ (nt_b _ _ _ _ _ _).1 ∧ (nt_b _ _ _ _ _ _).1 ≤ 9) ∧ (nt_b _ _ _ _ _ _).2 < 2
  omega
theorem nr_g_in (A : ab_SG) (p q first : Nat) (z : Int) : nr_g A p q first z ≤ 1 := by
  unfold nr_g
  split <;> omega
theorem ng_1B {A : ab_SG} (hb : nb_is A) {p q : Nat} {t : ng_T} (h : ng_B t) (h3 : t.2.1 < 3 ∧ t.2.2.1 < 3) : ng_B (ng_1 A p q t) := by
  obtain ⟨b1, b2, b3, b4, b5, b6⟩ := h
  have g := nr_g_in A p q (t.2.2.2.1 % 2) t.1
  have n := nr_b_in hb (p := p) (q := q) (first := t.2.2.2.1 % 2) (Nat.mod_lt _ (by decide)) t.1
  have m := mnN_b (b := ((nr_b A p q (t.2.2.2.1 % 2) t.1).1 : Int)) b5 (by omega)
  refine ⟨?_, ?_, ?_, ?_, m, ?_⟩
  · show (if nr_w A p q (t.2.2.2.1 % 2) t.1 = 0 then t.2.1 + 1 else t.2.1) ≤ 3
    by_cases c : nr_w A p q (t.2.2.2.1 % 2) t.1 = 0
    · rw [if_pos c]
      omega
    · rw [if_neg c]
      omega
  · show (if nr_w A p q (t.2.2.2.1 % 2) t.1 = 0 then t.2.2.1 else t.2.2.1 + 1) ≤ 3
    by_cases c : nr_w A p q (t.2.2.2.1 % 2) t.1 = 0
    · rw [if_pos c]
      omega
    · rw [if_neg c]
      omega
  · show (if nr_w A p q (t.2.2.2.1 % 2) t.1 = 0 then t.2.1 + 1 else t.2.1) + (if nr_w A p q (t.2.2.2.1 % 2) t.1 = 0 then t.2.2.1 else t.2.2.1 + 1) = t.2.2.2.1 + 1
    by_cases c : nr_w A p q (t.2.2.2.1 % 2) t.1 = 0
    · rw [if_pos c, if_pos c]
      omega
    · rw [if_neg c, if_neg c]
      omega
  · show t.2.2.2.2.1 + nr_g A p q (t.2.2.2.1 % 2) t.1 ≤ t.2.2.2.1 + 1
    omega
  · show t.2.2.2.1 + 1 ≤ 5
    omega
abbrev v_nb (A : ab_SG) (p q : Int) : Prop := (0 ≤ p ∧ p < A 49 13) ∧ (0 ≤ q ∧ q < A 49 13) ∧ p ≠ q ∧ 0 < A 49 12
def ng_win (A : ab_SG) (p q z : Int) : Bool := Nat.ble 3 (v_ng A p.toNat q.toNat z).2.1
def ng_cnt (A : ab_SG) (p q z : Int) : Nat → Int
  | 0 => 0
  | i + 1 => if ng_win A p q (z + (i : Int)) = true then ng_cnt A p q z i + 1 else ng_cnt A p q z i
theorem ng_cs (A : ab_SG) (p q z : Int) (i : Nat) : ng_cnt A p q z (i + 1) = if ng_win A p q (z + (i : Int)) = true then ng_cnt A p q z i + 1 else ng_cnt A p q z i := rfl
def v_nights (A : ab_SG) (p q n z : Int) : Int := if v_nb A p q ∧ (1 ≤ n ∧ n ≤ 100) then ng_cnt A p q z n.toNat else -1
def nz_K : ab_ML := [(81, 3), (84, 1000000)]
def nz_R : ab_ML := [(81, 3), (81, 5), (81, 6), (83, 1000000), (84, 1000000)]
def nz_M : ab_ML := [(81, 3), (81, 4), (81, 5), (81, 6), (82, 1000000), (83, 1000000), (84, 1000000)]
/-- the class's night -/
def nz_is (σ : ab_SG) (t : ng_T) : Prop := σ 81 3 = t.1 ∧ σ 83 0 = (t.2.1 : Int) ∧ σ 83 1 = (t.2.2.1 : Int) ∧ σ 81 4 = (t.2.2.2.1 : Int) ∧ σ 81 5 = (t.2.2.2.2.1 : Int) ∧ σ 81 6 = t.2.2.2.2.2
def pt_T : List (Nat × Nat) := [(82, 2), (83, 2), (84, 2), (10, 5)]
def sp_atp : fw_SP := sp_of at_k pt_T
def sp_put83 : fw_SP := put_k 83 2
def sp_put84 : fw_SP := put_k 84 2
def sp_draw : fw_SP := fun as σ K => ∃ n : Int, as = [(2, 81, 0), (0, 0, n)] ∧ (1 ≤ n ∧ n ≤ 1000) ∧ K (some (0, 0, nt_v (σ 81 3) n)) (ab_ups σ 81 3 (nt_s (σ 81 3)))
def sp_nth : fw_SP := fun as σ K => ∃ s k : Int, as = [(0, 0, s), (0, 0, k)] ∧ (0 ≤ k ∧ k ≤ 1000) ∧ K (some (0, 0, mb s k)) σ
def sp_drawTune : fw_SP := fun as σ K => ∃ s : Int, as = [(2, 81, 0), (0, 0, s)] ∧ (1 ≤ s ∧ s < 512) ∧ K (some (0, 0, mb s (nt_v (σ 81 3) (nr_n s)))) (ab_ups σ 81 3 (nt_s (σ 81 3)))
def sp_drawKnown : fw_SP := fun as σ K => ∃ (A : ab_SG) (sd p : Nat) (s : Int), as = [(2, 81, 0), (2, 3, 0), (0, 0, (sd : Int)), (0, 0, s)] ∧ sd < 2 ∧ NC σ A ∧ σ 82 sd = (p : Int) ∧ p < 5 ∧ ∀ σ' : ab_SG, ab_okM nz_K σ σ' → σ' 81 3 = (nt_k A p s (σ 81 3) 9).1 → σ' 84 sd = (nt_k A p s (σ 81 3) 9).2 → (∀ j : Nat, j ≠ sd → σ' 84 j = σ 84 j) → K none σ'
def sp_wouldBid : fw_SP := fun as σ K => ∃ (A : ab_SG) (sd p x n : Nat) (m a b : Int), as = [(2, 81, 0), (2, 3, 0), (0, 0, a), (0, 0, (x : Int)), (0, 0, b)] ∧ (a = (sd : Int) ∧ b = (n : Int)) ∧ sd < 2 ∧ NC σ A ∧ σ 82 sd = (p : Int) ∧ p < 5 ∧ σ 84 sd = m ∧ (x : Int) < A 49 11 ∧ n ≤ 9 ∧ K (some (0, 0, fw_bo (nt_w A p m x n))) σ
def sp_spendRound : fw_SP := fun as σ K => ∃ (A : ab_SG) (p q : Nat) (t : ng_T) (a : Int), as = [(2, 81, 0), (2, 3, 0), (0, 0, a)] ∧ a = ((t.2.2.2.1 % 2 : Nat) : Int) ∧ NC σ A ∧ (p < 5 ∧ q < 5) ∧ 0 < A 49 12 ∧ (σ 82 0 = (p : Int) ∧ σ 82 1 = (q : Int)) ∧ nz_is σ t ∧ ng_B t ∧ (t.2.1 < 3 ∧ t.2.2.1 < 3) ∧ ∀ σ' : ab_SG, ab_okM nz_R σ σ' → (σ' 81 3 = (ng_1 A p q t).1 ∧ σ' 83 0 = ((ng_1 A p q t).2.1 : Int) ∧ σ' 83 1 = ((ng_1 A p q t).2.2.1 : Int) ∧ σ' 81 5 = ((ng_1 A p q t).2.2.2.2.1 : Int) ∧ σ' 81 6 = (ng_1 A p q t).2.2.2.2.2) → K none σ'
def sp_spend : fw_SP := fun as σ K => ∃ (A : ab_SG) (p q : Nat) (z : Int), as = [(2, 81, 0), (2, 3, 0), (0, 0, (p : Int)), (0, 0, (q : Int)), (0, 0, z)] ∧ NC σ A ∧ (p < 5 ∧ q < 5) ∧ 0 < A 49 12 ∧ ∀ σ' : ab_SG, ab_okM nz_M σ σ' → nz_is σ' (v_ng A p q z) → ng_B (v_ng A p q z) → K none σ'
def sp_firstWins : fw_SP := fun as σ K => as = [(2, 81, 0)] ∧ K (some (0, 0, fw_bo (3 ≤ fw_c (σ 83 0)))) σ
def sp_canSpendNight : fw_SP := fun as σ K => ∃ (A : ab_SG) (p q : Int), as = [(2, 0, 0), (0, 0, p), (0, 0, q)] ∧ (fw_c p = p ∧ fw_c q = q) ∧ NC σ A ∧ K (some (0, 0, fw_bo (v_nb A p q))) σ
def sp_nights : fw_SP := fun as σ K => ∃ (A : ab_SG) (p q n z : Int), as = [(2, 0, 0), (0, 0, p), (0, 0, q), (0, 0, n), (0, 0, z)] ∧ (fw_c p = p ∧ fw_c q = q ∧ fw_c n = n ∧ fw_c z = z) ∧ NC σ A ∧ ∀ σ' : ab_SG, ab_okM nz_M σ σ' → K (some (0, 0, v_nights A p q n z)) σ'
theorem fw_m2 (a : Nat) (h : a < 1000) : fw_op 4 (a : Int) 2 = ((a % 2 : Nat) : Int) := nt_rm (x := a) (y := 2) (by omega) (by decide) (by decide)
abbrev fk_at82 : List fw_CR := []
abbrev st_at82 : fw_K → fw_KR → fw_K := fw_st vwCl nn_sh nn_kd fw_kv fw_wc (nn_KI1.map (fun x => x.1)) (nn_KJ1.map (fun x => x.1)) (nn_PF1.map (fun x => x.1)) (nn_PS1.map (fun x => x.1)) fk_at82 0 nn_dt29 2 0
theorem fs_at82_0 {G : fw_K} {R : fw_KR} (hG : fw_cls st_at82 R G) {x : Int} {σ : ab_SG} (h : (fw_c x < 0 → R (some (0, 0, 0)) σ) ∧ (0 ≤ fw_c x → (fw_c ((2 : Nat) : Int) ≤ fw_c x → R (some (0, 0, 0)) σ) ∧ (fw_c x < fw_c ((2 : Nat) : Int) → (0 ≤ fw_c x ∧ fw_c x < ((2 : Nat) : Int)) ∧ (R (some (0, 0, σ 82 (fw_c x).toNat)) σ)))) : G 0 [some (2, 82, 0), some (0, 0, x)] [] σ := fw_on hG [] 200 h
abbrev fk_at83 : List fw_CR := []
abbrev st_at83 : fw_K → fw_KR → fw_K := fw_st vwCl nn_sh nn_kd fw_kv fw_wc (nn_KI1.map (fun x => x.1)) (nn_KJ1.map (fun x => x.1)) (nn_PF1.map (fun x => x.1)) (nn_PS1.map (fun x => x.1)) fk_at83 0 nn_dt29 2 0
theorem fs_at83_0 {G : fw_K} {R : fw_KR} (hG : fw_cls st_at83 R G) {x : Int} {σ : ab_SG} (h : (fw_c x < 0 → R (some (0, 0, 0)) σ) ∧ (0 ≤ fw_c x → (fw_c ((2 : Nat) : Int) ≤ fw_c x → R (some (0, 0, 0)) σ) ∧ (fw_c x < fw_c ((2 : Nat) : Int) → (0 ≤ fw_c x ∧ fw_c x < ((2 : Nat) : Int)) ∧ (R (some (0, 0, σ 83 (fw_c x).toNat)) σ)))) : G 0 [some (2, 83, 0), some (0, 0, x)] [] σ := fw_on hG [] 200 h
abbrev fk_at84 : List fw_CR := []
abbrev st_at84 : fw_K → fw_KR → fw_K := fw_st vwCl nn_sh nn_kd fw_kv fw_wc (nn_KI1.map (fun x => x.1)) (nn_KJ1.map (fun x => x.1)) (nn_PF1.map (fun x => x.1)) (nn_PS1.map (fun x => x.1)) fk_at84 0 nn_dt29 2 0
theorem fs_at84_0 {G : fw_K} {R : fw_KR} (hG : fw_cls st_at84 R G) {x : Int} {σ : ab_SG} (h : (fw_c x < 0 → R (some (0, 0, 0)) σ) ∧ (0 ≤ fw_c x → (fw_c ((2 : Nat) : Int) ≤ fw_c x → R (some (0, 0, 0)) σ) ∧ (fw_c x < fw_c ((2 : Nat) : Int) → (0 ≤ fw_c x ∧ fw_c x < ((2 : Nat) : Int)) ∧ (R (some (0, 0, σ 84 (fw_c x).toNat)) σ)))) : G 0 [some (2, 84, 0), some (0, 0, x)] [] σ := fw_on hG [] 200 h
abbrev fk_put83 : List fw_CR := []
abbrev st_put83 : fw_K → fw_KR → fw_K := fw_st vwCl nn_sh nn_kd fw_kv fw_wc (nn_KI1.map (fun x => x.1)) (nn_KJ1.map (fun x => x.1)) (nn_PF1.map (fun x => x.1)) (nn_PS1.map (fun x => x.1)) fk_put83 0 nn_dt27 3 4
theorem fs_put83_0 {G : fw_K} {R : fw_KR} (hG : fw_cls st_put83 R G) {x v : Int} {σ : ab_SG} (h : (fw_c x < 0 → R none σ) ∧ (0 ≤ fw_c x → (fw_c ((2 : Nat) : Int) ≤ fw_c x → R none σ) ∧ (fw_c x < fw_c ((2 : Nat) : Int) → (0 ≤ fw_c x ∧ fw_c x < ((2 : Nat) : Int)) ∧ True ∧ (R none (ab_ups σ 83 (fw_c x).toNat (fw_c v)))))) : G 0 [some (2, 83, 0), some (0, 0, x), some (0, 0, v)] [] σ := fw_on hG [] 200 h
abbrev fk_put84 : List fw_CR := []
abbrev st_put84 : fw_K → fw_KR → fw_K := fw_st vwCl nn_sh nn_kd fw_kv fw_wc (nn_KI1.map (fun x => x.1)) (nn_KJ1.map (fun x => x.1)) (nn_PF1.map (fun x => x.1)) (nn_PS1.map (fun x => x.1)) fk_put84 0 nn_dt27 3 4
theorem fs_put84_0 {G : fw_K} {R : fw_KR} (hG : fw_cls st_put84 R G) {x v : Int} {σ : ab_SG} (h : (fw_c x < 0 → R none σ) ∧ (0 ≤ fw_c x → (fw_c ((2 : Nat) : Int) ≤ fw_c x → R none σ) ∧ (fw_c x < fw_c ((2 : Nat) : Int) → (0 ≤ fw_c x ∧ fw_c x < ((2 : Nat) : Int)) ∧ True ∧ (R none (ab_ups σ 84 (fw_c x).toNat (fw_c v)))))) : G 0 [some (2, 84, 0), some (0, 0, x), some (0, 0, v)] [] σ := fw_on hG [] 200 h
abbrev fk_draw : List fw_CR := []
abbrev st_draw : fw_K → fw_KR → fw_K := fw_st vwCl nn_sh nn_kd fw_kv fw_wc (nn_KI8.map (fun x => x.1)) (nn_KJ8.map (fun x => x.1)) (nn_PF8.map (fun x => x.1)) (nn_PS8.map (fun x => x.1)) fk_draw 0 nn_dt162 2 0
theorem fs_draw_0 {G : fw_K} {R : fw_KR} (hG : fw_cls st_draw R G) {n : Int} {σ : ab_SG} (h : (fw_c n ≤ 0 → R (some (0, 0, 0)) (ab_ups σ 81 3 (fw_c (((σ 81 3) * 1103515245) + 12345)))) ∧ (0 < fw_c n → fw_c n ≠ 0 ∧ (R (some (0, 0, fw_op 4 (fw_op 7 (fw_c (((σ 81 3) * 1103515245) + 12345)) 8) n)) (ab_ups σ 81 3 (fw_c (((σ 81 3) * 1103515245) + 12345)))))) : G 0 [some (2, 81, 0), some (0, 0, n)] [] σ := fw_on hG [] 200 h
abbrev fk_nth : List fw_CR := [(197, 2, false, 0, 0, sp_has)]
abbrev st_nth : fw_K → fw_KR → fw_K := fw_st vwCl nn_sh nn_kd fw_kv fw_wc (nn_KI1.map (fun x => x.1)) (nn_KJ1.map (fun x => x.1)) (nn_PF1.map (fun x => x.1)) (nn_PS1.map (fun x => x.1)) fk_nth 1 nn_dt164 4 0
theorem fs_nth_0 {G : fw_K} {R : fw_KR} (hG : fw_cls st_nth R G) {s k : Int} {σ : ab_SG} (h : G 4 [some (0, 0, s), some (0, 0, k), some (0, 0, 0), some (0, 0, 0)] [] σ) : G 0 [some (0, 0, s), some (0, 0, k), none, none] [] σ := fw_on hG [4, 15, 28] 200 h
theorem fs_nth_4 {G : fw_K} {R : fw_KR} (hG : fw_cls st_nth R G) {a0 a1 a2 a3 : Int} {σ : ab_SG} (h : (fw_c 9 ≤ fw_c a3 → R (some (0, 0, (-1))) σ) ∧ (fw_c a3 < fw_c 9 → sp_has [(0, 0, a0), (0, 0, a3)] σ (fun rv σ2 => G 15 [some (0, 0, a0), some (0, 0, a1), some (0, 0, a2), some (0, 0, a3)] (rv.toList ++ []) σ2))) : G 4 [some (0, 0, a0), some (0, 0, a1), some (0, 0, a2), some (0, 0, a3)] [] σ := fw_on hG [4, 15, 28] 200 h
theorem fs_nth_15 {G : fw_K} {R : fw_KR} (hG : fw_cls st_nth R G) {a0 a1 a2 a3 b0 : Int} {σ : ab_SG} (h : (fw_c b0 = 0 → G 28 [some (0, 0, a0), some (0, 0, a1), some (0, 0, a2), some (0, 0, a3)] [] σ) ∧ (fw_c b0 ≠ 0 → (fw_c a2 ≠ fw_c a1 → G 28 [some (0, 0, a0), some (0, 0, a1), some (0, 0, a2 + 1), some (0, 0, a3)] [] σ) ∧ (fw_c a2 = fw_c a1 → R (some (0, 0, a3)) σ))) : G 15 [some (0, 0, a0), some (0, 0, a1), some (0, 0, a2), some (0, 0, a3)] [(0, 0, b0)] σ := fw_on hG [4, 15, 28] 200 h
theorem fs_nth_28 {G : fw_K} {R : fw_KR} (hG : fw_cls st_nth R G) {a0 a1 a2 a3 : Int} {σ : ab_SG} (h : G 4 [some (0, 0, a0), some (0, 0, a1), some (0, 0, a2), some (0, 0, a3 + 1)] [] σ) : G 28 [some (0, 0, a0), some (0, 0, a1), some (0, 0, a2), some (0, 0, a3)] [] σ := fw_on hG [4, 15, 28] 200 h
abbrev fk_drawTune : List fw_CR := [(43, 1, true, 4, 0, sp_draw), (89, 1, false, 0, 0, sp_bitc9), (97, 2, false, 0, 1, sp_nth)]
abbrev st_drawTune : fw_K → fw_KR → fw_K := fw_st vwCl nn_sh nn_kd fw_kv fw_wc (nn_KI8.map (fun x => x.1)) (nn_KJ8.map (fun x => x.1)) (nn_PF8.map (fun x => x.1)) (nn_PS8.map (fun x => x.1)) fk_drawTune 2 nn_dt163 2 0
theorem fs_drawTune_0 {G : fw_K} {R : fw_KR} (hG : fw_cls st_drawTune R G) {s : Int} {σ : ab_SG} (h : sp_bitc9 [(0, 0, s)] σ (fun rv σ2 => G 6 [some (2, 81, 0), some (0, 0, s)] (rv.toList ++ [(2, 81, 0), (0, 0, s)]) σ2)) : G 0 [some (2, 81, 0), some (0, 0, s)] [] σ := fw_on hG [6, 9, 12] 200 h
theorem fs_drawTune_6 {G : fw_K} {R : fw_KR} (hG : fw_cls st_drawTune R G) {b0 b2 : Int} {o1 : Option ab_AV} {σ : ab_SG} (h : sp_draw [(2, 81, 0), (0, 0, b0)] σ (fun rv σ2 => G 9 [some (2, 81, 0), o1] (rv.toList ++ [(0, 0, b2)]) σ2)) : G 6 [some (2, 81, 0), o1] [(0, 0, b0), (2, 81, 0), (0, 0, b2)] σ := fw_on hG [6, 9, 12] 200 h
theorem fs_drawTune_9 {G : fw_K} {R : fw_KR} (hG : fw_cls st_drawTune R G) {b0 b1 : Int} {o1 : Option ab_AV} {σ : ab_SG} (h : sp_nth [(0, 0, b1), (0, 0, b0)] σ (fun rv σ2 => G 12 [some (2, 81, 0), o1] (rv.toList ++ []) σ2)) : G 9 [some (2, 81, 0), o1] [(0, 0, b0), (0, 0, b1)] σ := fw_on hG [6, 9, 12] 200 h
theorem fs_drawTune_12 {G : fw_K} {R : fw_KR} (hG : fw_cls st_drawTune R G) {b0 : Int} {o1 : Option ab_AV} {σ : ab_SG} (h : R (some (0, 0, b0)) σ) : G 12 [some (2, 81, 0), o1] [(0, 0, b0)] σ := fw_on hG [6, 9, 12] 200 h
abbrev fk_drawKnown : List fw_CR := [(43, 1, true, 4, 0, sp_draw), (70, 2, false, 0, 0, sp_atp), (78, 3, false, 0, 0, sp_put84), (82, 2, false, 0, 0, sp_has), (86, 2, true, 6, 1, sp_ninth3)]
abbrev st_drawKnown : fw_K → fw_KR → fw_K := fw_st vwCl nn_sh nn_kd fw_kv fw_wc (nn_KI8.map (fun x => x.1)) (nn_KJ8.map (fun x => x.1)) (nn_PF8.map (fun x => x.1)) (nn_PS8.map (fun x => x.1)) fk_drawKnown 2 nn_dt165 6 4
theorem fs_drawKnown_0 {G : fw_K} {R : fw_KR} (hG : fw_cls st_drawKnown R G) {side s : Int} {σ : ab_SG} (h : G 6 [some (2, 81, 0), some (2, 3, 0), some (0, 0, side), some (0, 0, s), some (0, 0, 0), some (0, 0, 0)] [] σ) : G 0 [some (2, 81, 0), some (2, 3, 0), some (0, 0, side), some (0, 0, s), none, none] [] σ := fw_on hG [6, 19, 28, 37, 42, 54, 70] 200 h
theorem fs_drawKnown_6 {G : fw_K} {R : fw_KR} (hG : fw_cls st_drawKnown R G) {a2 a3 a4 a5 : Int} {σ : ab_SG} (h : (fw_c 9 ≤ fw_c a5 → sp_put84 [(2, 84, 0), (0, 0, a2), (0, 0, a4)] σ (fun rv σ2 => G 70 [some (2, 81, 0), some (2, 3, 0), some (0, 0, a2), some (0, 0, a3), some (0, 0, a4), some (0, 0, a5)] (rv.toList ++ []) σ2)) ∧ (fw_c a5 < fw_c 9 → sp_has [(0, 0, a3), (0, 0, a5)] σ (fun rv σ2 => G 19 [some (2, 81, 0), some (2, 3, 0), some (0, 0, a2), some (0, 0, a3), some (0, 0, a4), some (0, 0, a5)] (rv.toList ++ []) σ2))) : G 6 [some (2, 81, 0), some (2, 3, 0), some (0, 0, a2), some (0, 0, a3), some (0, 0, a4), some (0, 0, a5)] [] σ := fw_on hG [6, 19, 28, 37, 42, 54, 70] 200 h
theorem fs_drawKnown_70 {G : fw_K} {R : fw_KR} (hG : fw_cls st_drawKnown R G) {o1 o2 o3 o4 o5 : Option ab_AV} {σ : ab_SG} (h : R none σ) : G 70 [some (2, 81, 0), o1, o2, o3, o4, o5] [] σ := fw_on hG [6, 19, 28, 37, 42, 54, 70] 200 h
theorem fs_drawKnown_19 {G : fw_K} {R : fw_KR} (hG : fw_cls st_drawKnown R G) {a2 a3 a4 a5 b0 : Int} {σ : ab_SG} (h : (fw_c b0 = 0 → G 54 [some (2, 81, 0), some (2, 3, 0), some (0, 0, a2), some (0, 0, a3), some (0, 0, a4), some (0, 0, a5)] [] σ) ∧ (fw_c b0 ≠ 0 → sp_draw [(2, 81, 0), (0, 0, 9)] σ (fun rv σ2 => G 28 [some (2, 81, 0), some (2, 3, 0), some (0, 0, a2), some (0, 0, a3), some (0, 0, a4), some (0, 0, a5)] (rv.toList ++ []) σ2))) : G 19 [some (2, 81, 0), some (2, 3, 0), some (0, 0, a2), some (0, 0, a3), some (0, 0, a4), some (0, 0, a5)] [(0, 0, b0)] σ := fw_on hG [6, 19, 28, 37, 42, 54, 70] 200 h
theorem fs_drawKnown_54 {G : fw_K} {R : fw_KR} (hG : fw_cls st_drawKnown R G) {a2 a3 a4 a5 : Int} {σ : ab_SG} (h : G 6 [some (2, 81, 0), some (2, 3, 0), some (0, 0, a2), some (0, 0, a3), some (0, 0, a4), some (0, 0, a5 + 1)] [] σ) : G 54 [some (2, 81, 0), some (2, 3, 0), some (0, 0, a2), some (0, 0, a3), some (0, 0, a4), some (0, 0, a5)] [] σ := fw_on hG [6, 19, 28, 37, 42, 54, 70] 200 h
theorem fs_drawKnown_28 {G : fw_K} {R : fw_KR} (hG : fw_cls st_drawKnown R G) {a2 a3 a4 a5 b0 : Int} {σ : ab_SG} (h : sp_atp [(2, 82, 0), (0, 0, a2)] σ (fun rv σ2 => G 37 [some (2, 81, 0), some (2, 3, 0), some (0, 0, a2), some (0, 0, a3), some (0, 0, a4), some (0, 0, a5)] (rv.toList ++ [(2, 3, 0), (0, 0, b0)]) σ2)) : G 28 [some (2, 81, 0), some (2, 3, 0), some (0, 0, a2), some (0, 0, a3), some (0, 0, a4), some (0, 0, a5)] [(0, 0, b0)] σ := fw_on hG [6, 19, 28, 37, 42, 54, 70] 200 h
theorem fs_drawKnown_37 {G : fw_K} {R : fw_KR} (hG : fw_cls st_drawKnown R G) {a2 a3 a4 a5 b0 b2 : Int} {σ : ab_SG} (h : sp_ninth3 [(2, 3, 0), (0, 0, b0), (0, 0, a5)] σ (fun rv σ2 => G 42 [some (2, 81, 0), some (2, 3, 0), some (0, 0, a2), some (0, 0, a3), some (0, 0, a4), some (0, 0, a5)] (rv.toList ++ [(0, 0, b2)]) σ2)) : G 37 [some (2, 81, 0), some (2, 3, 0), some (0, 0, a2), some (0, 0, a3), some (0, 0, a4), some (0, 0, a5)] [(0, 0, b0), (2, 3, 0), (0, 0, b2)] σ := fw_on hG [6, 19, 28, 37, 42, 54, 70] 200 h
theorem fs_drawKnown_42 {G : fw_K} {R : fw_KR} (hG : fw_cls st_drawKnown R G) {a2 a3 a4 a5 b0 b1 : Int} {σ : ab_SG} (h : (fw_c b0 ≤ fw_c b1 → G 54 [some (2, 81, 0), some (2, 3, 0), some (0, 0, a2), some (0, 0, a3), some (0, 0, a4), some (0, 0, a5)] [] σ) ∧ (fw_c b1 < fw_c b0 → G 54 [some (2, 81, 0), some (2, 3, 0), some (0, 0, a2), some (0, 0, a3), some (0, 0, fw_op 9 a4 (fw_op 5 1 a5)), some (0, 0, a5)] [] σ)) : G 42 [some (2, 81, 0), some (2, 3, 0), some (0, 0, a2), some (0, 0, a3), some (0, 0, a4), some (0, 0, a5)] [(0, 0, b0), (0, 0, b1)] σ := fw_on hG [6, 19, 28, 37, 42, 54, 70] 200 h
abbrev fk_wouldBid : List fw_CR := [(70, 2, false, 0, 0, sp_atp), (74, 4, true, 6, 2, sp_likes3), (82, 2, false, 0, 0, sp_has), (89, 1, false, 0, 0, sp_bitc9)]
abbrev st_wouldBid : fw_K → fw_KR → fw_K := fw_st vwCl nn_sh nn_kd fw_kv fw_wc (nn_KI8.map (fun x => x.1)) (nn_KJ8.map (fun x => x.1)) (nn_PF8.map (fun x => x.1)) (nn_PS8.map (fun x => x.1)) fk_wouldBid 3 nn_dt166 7 1
theorem fs_wouldBid_0 {G : fw_K} {R : fw_KR} (hG : fw_cls st_wouldBid R G) {side x n : Int} {σ : ab_SG} (h : sp_atp [(2, 84, 0), (0, 0, side)] σ (fun rv σ2 => G 8 [some (2, 81, 0), some (2, 3, 0), some (0, 0, side), some (0, 0, x), some (0, 0, n), none, none] (rv.toList ++ []) σ2)) : G 0 [some (2, 81, 0), some (2, 3, 0), some (0, 0, side), some (0, 0, x), some (0, 0, n), none, none] [] σ := fw_on hG [8, 22, 37, 40, 60, 63] 200 h
theorem fs_wouldBid_8 {G : fw_K} {R : fw_KR} (hG : fw_cls st_wouldBid R G) {a2 a3 a4 b0 : Int} {o6 : Option ab_AV} {σ : ab_SG} (h : (fw_c a4 < fw_c 1 → (0 ≤ fw_c 0 ∧ fw_c 0 ≤ 1) ∧ R (some (0, 0, 0)) σ) ∧ (fw_c 1 ≤ fw_c a4 → sp_has [(0, 0, b0), (0, 0, a3)] σ (fun rv σ2 => G 22 [some (2, 81, 0), some (2, 3, 0), some (0, 0, a2), some (0, 0, a3), some (0, 0, a4), some (0, 0, b0), o6] (rv.toList ++ []) σ2))) : G 8 [some (2, 81, 0), some (2, 3, 0), some (0, 0, a2), some (0, 0, a3), some (0, 0, a4), none, o6] [(0, 0, b0)] σ := fw_on hG [8, 22, 37, 40, 60, 63] 200 h
theorem fs_wouldBid_22 {G : fw_K} {R : fw_KR} (hG : fw_cls st_wouldBid R G) {a2 a3 a4 a5 b0 : Int} {o6 : Option ab_AV} {σ : ab_SG} (h : (fw_c b0 ≠ 0 → sp_likes3 [(2, 3, 0), (0, 0, a3), (0, 0, a4), (0, 0, 0), (0, 0, a5)] σ (fun rv σ2 => G 37 [some (2, 81, 0), some (2, 3, 0), some (0, 0, a2), some (0, 0, a3), some (0, 0, a4), some (0, 0, a5), o6] (rv.toList ++ []) σ2)) ∧ (fw_c b0 = 0 → (0 ≤ fw_c 0 ∧ fw_c 0 ≤ 1) ∧ R (some (0, 0, 0)) σ)) : G 22 [some (2, 81, 0), some (2, 3, 0), some (0, 0, a2), some (0, 0, a3), some (0, 0, a4), some (0, 0, a5), o6] [(0, 0, b0)] σ := fw_on hG [8, 22, 37, 40, 60, 63] 200 h
theorem fs_wouldBid_37 {G : fw_K} {R : fw_KR} (hG : fw_cls st_wouldBid R G) {a2 a5 b0 : Int} {o3 o4 o6 : Option ab_AV} {σ : ab_SG} (h : sp_bitc9 [(0, 0, b0)] σ (fun rv σ2 => G 40 [some (2, 81, 0), some (2, 3, 0), some (0, 0, a2), o3, o4, some (0, 0, a5), o6] (rv.toList ++ []) σ2)) : G 37 [some (2, 81, 0), some (2, 3, 0), some (0, 0, a2), o3, o4, some (0, 0, a5), o6] [(0, 0, b0)] σ := fw_on hG [8, 22, 37, 40, 60, 63] 200 h
theorem fs_wouldBid_40 {G : fw_K} {R : fw_KR} (hG : fw_cls st_wouldBid R G) {a2 a5 b0 : Int} {o3 o4 o6 : Option ab_AV} {σ : ab_SG} (h : sp_atp [(2, 82, 0), (0, 0, a2)] σ (fun rv σ2 => G 60 [some (2, 81, 0), some (2, 3, 0), some (0, 0, a2), o3, o4, some (0, 0, a5), some (0, 0, b0 - 1)] (rv.toList ++ [(2, 10, 0), (0, 0, 9), (0, 0, b0 - 1)]) σ2)) : G 40 [some (2, 81, 0), some (2, 3, 0), some (0, 0, a2), o3, o4, some (0, 0, a5), o6] [(0, 0, b0)] σ := fw_on hG [8, 22, 37, 40, 60, 63] 200 h
theorem fs_wouldBid_60 {G : fw_K} {R : fw_KR} (hG : fw_cls st_wouldBid R G) {a5 b0 b2 b3 : Int} {o1 o2 o3 o4 o6 : Option ab_AV} {σ : ab_SG} (h : sp_atp [(2, 10, 0), (0, 0, b0)] σ (fun rv σ2 => G 63 [some (2, 81, 0), o1, o2, o3, o4, some (0, 0, a5), o6] (rv.toList ++ [(0, 0, b2), (0, 0, b3)]) σ2)) : G 60 [some (2, 81, 0), o1, o2, o3, o4, some (0, 0, a5), o6] [(0, 0, b0), (2, 10, 0), (0, 0, b2), (0, 0, b3)] σ := fw_on hG [8, 22, 37, 40, 60, 63] 200 h
theorem fs_wouldBid_63 {G : fw_K} {R : fw_KR} (hG : fw_cls st_wouldBid R G) {a5 b0 b1 b2 : Int} {o1 o2 o3 o4 o6 : Option ab_AV} {σ : ab_SG} (h : (fw_c (b1 - b0) < fw_c b2 → (0 ≤ fw_c 0 ∧ fw_c 0 ≤ 1) ∧ R (some (0, 0, 0)) σ) ∧ (fw_c b2 ≤ fw_c (b1 - b0) → (0 ≤ fw_c 1 ∧ fw_c 1 ≤ 1) ∧ R (some (0, 0, 1)) σ)) : G 63 [some (2, 81, 0), o1, o2, o3, o4, some (0, 0, a5), o6] [(0, 0, b0), (0, 0, b1), (0, 0, b2)] σ := fw_on hG [8, 22, 37, 40, 60, 63] 200 h
abbrev fk_spendRound : List fw_CR := [(43, 1, true, 4, 0, sp_draw), (47, 1, true, 6, 1, sp_setOf3), (50, 1, true, 4, 2, sp_drawTune), (53, 3, true, 4, 2, sp_drawKnown), (60, 4, true, 4, 3, sp_wouldBid), (70, 2, false, 0, 0, sp_atp), (74, 4, true, 6, 2, sp_likes3), (78, 3, false, 0, 0, sp_put83)]
abbrev st_spendRound : fw_K → fw_KR → fw_K := fw_st vwCl nn_sh nn_kd fw_kv fw_wc (nn_KI8.map (fun x => x.1)) (nn_KJ8.map (fun x => x.1)) (nn_PF8.map (fun x => x.1)) (nn_PS8.map (fun x => x.1)) fk_spendRound 4 nn_dt161 10 4
theorem fs_spendRound_0 {G : fw_K} {R : fw_KR} (hG : fw_cls st_spendRound R G) {first : Int} {σ : ab_SG} (h : sp_draw [(2, 81, 0), (0, 0, σ 3 12)] σ (fun rv σ2 => G 9 [some (2, 81, 0), some (2, 3, 0), some (0, 0, first), none, none, none, none, none, none, none] (rv.toList ++ [(2, 3, 0)]) σ2)) : G 0 [some (2, 81, 0), some (2, 3, 0), some (0, 0, first), none, none, none, none, none, none, none] [] σ := fw_on hG [9, 12, 18, 27, 34, 46, 68, 86, 114, 117, 130, 139, 140, 157, 175, 192, 197] 200 h
theorem fs_spendRound_9 {G : fw_K} {R : fw_KR} (hG : fw_cls st_spendRound R G) {a2 b0 : Int} {o3 o4 o5 o6 o9 : Option ab_AV} {σ : ab_SG} (h : sp_setOf3 [(2, 3, 0), (0, 0, b0)] σ (fun rv σ2 => G 12 [some (2, 81, 0), some (2, 3, 0), some (0, 0, a2), o3, o4, o5, o6, none, none, o9] (rv.toList ++ []) σ2)) : G 9 [some (2, 81, 0), some (2, 3, 0), some (0, 0, a2), o3, o4, o5, o6, none, none, o9] [(0, 0, b0), (2, 3, 0)] σ := fw_on hG [9, 12, 18, 27, 34, 46, 68, 86, 114, 117, 130, 139, 140, 157, 175, 192, 197] 200 h
theorem fs_spendRound_12 {G : fw_K} {R : fw_KR} (hG : fw_cls st_spendRound R G) {a2 b0 : Int} {o3 o4 o5 o6 o9 : Option ab_AV} {σ : ab_SG} (h : sp_drawTune [(2, 81, 0), (0, 0, b0)] σ (fun rv σ2 => G 18 [some (2, 81, 0), some (2, 3, 0), some (0, 0, a2), some (0, 0, b0), o4, o5, o6, none, none, o9] (rv.toList ++ []) σ2)) : G 12 [some (2, 81, 0), some (2, 3, 0), some (0, 0, a2), o3, o4, o5, o6, none, none, o9] [(0, 0, b0)] σ := fw_on hG [9, 12, 18, 27, 34, 46, 68, 86, 114, 117, 130, 139, 140, 157, 175, 192, 197] 200 h
theorem fs_spendRound_18 {G : fw_K} {R : fw_KR} (hG : fw_cls st_spendRound R G) {a2 a3 b0 : Int} {o4 o5 o6 o9 : Option ab_AV} {σ : ab_SG} (h : sp_drawKnown [(2, 81, 0), (2, 3, 0), (0, 0, 0), (0, 0, a3)] σ (fun rv σ2 => G 27 [some (2, 81, 0), some (2, 3, 0), some (0, 0, a2), some (0, 0, a3), some (0, 0, b0), o5, o6, none, none, o9] (rv.toList ++ []) σ2)) : G 18 [some (2, 81, 0), some (2, 3, 0), some (0, 0, a2), some (0, 0, a3), o4, o5, o6, none, none, o9] [(0, 0, b0)] σ := fw_on hG [9, 12, 18, 27, 34, 46, 68, 86, 114, 117, 130, 139, 140, 157, 175, 192, 197] 200 h
theorem fs_spendRound_27 {G : fw_K} {R : fw_KR} (hG : fw_cls st_spendRound R G) {a2 a3 a4 : Int} {o5 o6 o9 : Option ab_AV} {σ : ab_SG} (h : sp_drawKnown [(2, 81, 0), (2, 3, 0), (0, 0, 1), (0, 0, a3)] σ (fun rv σ2 => G 34 [some (2, 81, 0), some (2, 3, 0), some (0, 0, a2), some (0, 0, a3), some (0, 0, a4), o5, o6, none, none, o9] (rv.toList ++ []) σ2)) : G 27 [some (2, 81, 0), some (2, 3, 0), some (0, 0, a2), some (0, 0, a3), some (0, 0, a4), o5, o6, none, none, o9] [] σ := fw_on hG [9, 12, 18, 27, 34, 46, 68, 86, 114, 117, 130, 139, 140, 157, 175, 192, 197] 200 h
theorem fs_spendRound_34 {G : fw_K} {R : fw_KR} (hG : fw_cls st_spendRound R G) {a2 a4 : Int} {o3 o5 o6 o9 : Option ab_AV} {σ : ab_SG} (h : G 46 [some (2, 81, 0), some (2, 3, 0), some (0, 0, a2), o3, some (0, 0, a4), some (0, 0, σ 3 14), some (0, 0, a2), some (0, 0, 0), none, o9] [] σ) : G 34 [some (2, 81, 0), some (2, 3, 0), some (0, 0, a2), o3, some (0, 0, a4), o5, o6, none, none, o9] [] σ := fw_on hG [9, 12, 18, 27, 34, 46, 68, 86, 114, 117, 130, 139, 140, 157, 175, 192, 197] 200 h
theorem fs_spendRound_46 {G : fw_K} {R : fw_KR} (hG : fw_cls st_spendRound R G) {a4 a5 a6 a7 : Int} {o2 o3 o9 : Option ab_AV} {σ : ab_SG} (h : (fw_c 9 ≤ fw_c a7 → G 86 [some (2, 81, 0), some (2, 3, 0), o2, o3, some (0, 0, a4), some (0, 0, a5), some (0, 0, a6), some (0, 0, a7), none, o9] [] σ) ∧ (fw_c a7 < fw_c 9 → sp_wouldBid [(2, 81, 0), (2, 3, 0), (0, 0, 1 - a6), (0, 0, a4), (0, 0, a5 - 1)] σ (fun rv σ2 => G 68 [some (2, 81, 0), some (2, 3, 0), o2, o3, some (0, 0, a4), some (0, 0, a5), some (0, 0, a6), some (0, 0, a7), none, o9] (rv.toList ++ []) σ2))) : G 46 [some (2, 81, 0), some (2, 3, 0), o2, o3, some (0, 0, a4), some (0, 0, a5), some (0, 0, a6), some (0, 0, a7), none, o9] [] σ := fw_on hG [9, 12, 18, 27, 34, 46, 68, 86, 114, 117, 130, 139, 140, 157, 175, 192, 197] 200 h
theorem fs_spendRound_86 {G : fw_K} {R : fw_KR} (hG : fw_cls st_spendRound R G) {a4 a5 a6 a7 : Int} {o2 o3 o9 : Option ab_AV} {σ : ab_SG} (h : sp_atp [(2, 84, 0), (0, 0, a6)] (ab_ups σ 81 6 (fw_c (if fw_c a5 < fw_c (σ 81 6) then fw_c a5 else fw_c (σ 81 6)))) (fun rv σ2 => G 114 [some (2, 81, 0), some (2, 3, 0), o2, o3, some (0, 0, a4), some (0, 0, a5), some (0, 0, a6), some (0, 0, a7), none, o9] (rv.toList ++ [(0, 0, 0), (0, 0, a5), (0, 0, a4), (2, 3, 0)]) σ2)) : G 86 [some (2, 81, 0), some (2, 3, 0), o2, o3, some (0, 0, a4), some (0, 0, a5), some (0, 0, a6), some (0, 0, a7), none, o9] [] σ := fw_on hG [9, 12, 18, 27, 34, 46, 68, 86, 114, 117, 130, 139, 140, 157, 175, 192, 197] 200 h
theorem fs_spendRound_68 {G : fw_K} {R : fw_KR} (hG : fw_cls st_spendRound R G) {a4 a5 a6 a7 b0 : Int} {o2 o3 o9 : Option ab_AV} {σ : ab_SG} (h : (fw_c b0 = 0 → G 86 [some (2, 81, 0), some (2, 3, 0), o2, o3, some (0, 0, a4), some (0, 0, a5), some (0, 0, a6), some (0, 0, a7), none, o9] [] σ) ∧ (fw_c b0 ≠ 0 → G 46 [some (2, 81, 0), some (2, 3, 0), o2, o3, some (0, 0, a4), some (0, 0, a5 + (-1)), some (0, 0, 1 - a6), some (0, 0, a7 + 1), none, o9] [] σ)) : G 68 [some (2, 81, 0), some (2, 3, 0), o2, o3, some (0, 0, a4), some (0, 0, a5), some (0, 0, a6), some (0, 0, a7), none, o9] [(0, 0, b0)] σ := fw_on hG [9, 12, 18, 27, 34, 46, 68, 86, 114, 117, 130, 139, 140, 157, 175, 192, 197] 200 h
theorem fs_spendRound_114 {G : fw_K} {R : fw_KR} (hG : fw_cls st_spendRound R G) {a4 a6 a7 b0 b1 b2 b3 : Int} {o1 o2 o3 o5 o9 : Option ab_AV} {σ : ab_SG} (h : sp_likes3 [(2, 3, 0), (0, 0, b3), (0, 0, b2), (0, 0, b1), (0, 0, b0)] σ (fun rv σ2 => G 117 [some (2, 81, 0), o1, o2, o3, some (0, 0, a4), o5, some (0, 0, a6), some (0, 0, a7), none, o9] (rv.toList ++ []) σ2)) : G 114 [some (2, 81, 0), o1, o2, o3, some (0, 0, a4), o5, some (0, 0, a6), some (0, 0, a7), none, o9] [(0, 0, b0), (0, 0, b1), (0, 0, b2), (0, 0, b3), (2, 3, 0)] σ := fw_on hG [9, 12, 18, 27, 34, 46, 68, 86, 114, 117, 130, 139, 140, 157, 175, 192, 197] 200 h
theorem fs_spendRound_117 {G : fw_K} {R : fw_KR} (hG : fw_cls st_spendRound R G) {a4 a6 a7 b0 : Int} {o1 o2 o3 o5 o9 : Option ab_AV} {σ : ab_SG} (h : (fw_c b0 = 0 → G 139 [some (2, 81, 0), o1, o2, o3, some (0, 0, a4), o5, some (0, 0, a6), some (0, 0, b0), none, o9] [] σ) ∧ (fw_c b0 ≠ 0 → sp_drawTune [(2, 81, 0), (0, 0, b0)] σ (fun rv σ2 => G 130 [some (2, 81, 0), o1, o2, o3, some (0, 0, a4), o5, some (0, 0, a6), some (0, 0, b0), none, o9] (rv.toList ++ []) σ2))) : G 117 [some (2, 81, 0), o1, o2, o3, some (0, 0, a4), o5, some (0, 0, a6), some (0, 0, a7), none, o9] [(0, 0, b0)] σ := fw_on hG [9, 12, 18, 27, 34, 46, 68, 86, 114, 117, 130, 139, 140, 157, 175, 192, 197] 200 h
theorem fs_spendRound_139 {G : fw_K} {R : fw_KR} (hG : fw_cls st_spendRound R G) {a6 a7 : Int} {o1 o2 o3 o4 o5 o9 : Option ab_AV} {σ : ab_SG} (h : G 140 [some (2, 81, 0), o1, o2, o3, o4, o5, some (0, 0, a6), some (0, 0, a7), none, o9] [(0, 0, 0)] σ) : G 139 [some (2, 81, 0), o1, o2, o3, o4, o5, some (0, 0, a6), some (0, 0, a7), none, o9] [] σ := fw_on hG [9, 12, 18, 27, 34, 46, 68, 86, 114, 117, 130, 139, 140, 157, 175, 192, 197] 200 h
theorem fs_spendRound_130 {G : fw_K} {R : fw_KR} (hG : fw_cls st_spendRound R G) {a4 a6 a7 b0 : Int} {o1 o2 o3 o5 o9 : Option ab_AV} {σ : ab_SG} (h : (fw_c b0 ≠ fw_c a4 → G 139 [some (2, 81, 0), o1, o2, o3, some (0, 0, a4), o5, some (0, 0, a6), some (0, 0, a7), none, o9] [] σ) ∧ (fw_c b0 = fw_c a4 → G 140 [some (2, 81, 0), o1, o2, o3, some (0, 0, a4), o5, some (0, 0, a6), some (0, 0, a7), none, o9] [(0, 0, 1)] σ)) : G 130 [some (2, 81, 0), o1, o2, o3, some (0, 0, a4), o5, some (0, 0, a6), some (0, 0, a7), none, o9] [(0, 0, b0)] σ := fw_on hG [9, 12, 18, 27, 34, 46, 68, 86, 114, 117, 130, 139, 140, 157, 175, 192, 197] 200 h
theorem fs_spendRound_140 {G : fw_K} {R : fw_KR} (hG : fw_cls st_spendRound R G) {a6 a7 b0 : Int} {o1 o2 o3 o4 o5 o9 : Option ab_AV} {σ : ab_SG} (h : (fw_c b0 = 0 → G 157 [some (2, 81, 0), o1, o2, o3, o4, o5, some (0, 0, a6), some (0, 0, a7), some (0, 0, b0), o9] [(0, 0, 0), (0, 0, σ 81 5), (2, 81, 0)] σ) ∧ (fw_c b0 ≠ 0 → G 157 [some (2, 81, 0), o1, o2, o3, o4, o5, some (0, 0, a6), some (0, 0, a7), some (0, 0, b0), o9] [(0, 0, 1), (0, 0, σ 81 5), (2, 81, 0)] σ)) : G 140 [some (2, 81, 0), o1, o2, o3, o4, o5, some (0, 0, a6), some (0, 0, a7), none, o9] [(0, 0, b0)] σ := fw_on hG [9, 12, 18, 27, 34, 46, 68, 86, 114, 117, 130, 139, 140, 157, 175, 192, 197] 200 h
theorem fs_spendRound_157 {G : fw_K} {R : fw_KR} (hG : fw_cls st_spendRound R G) {a6 a7 a8 b0 b1 : Int} {o1 o2 o3 o4 o5 o9 : Option ab_AV} {σ : ab_SG} (h : (fw_c a8 = 0 → G 175 [some (2, 81, 0), o1, o2, o3, o4, o5, some (0, 0, a6), some (0, 0, a7), some (0, 0, a8), o9] [(0, 0, 1 - a6)] (ab_ups σ 81 5 (fw_c (b1 + b0)))) ∧ (fw_c a8 ≠ 0 → G 175 [some (2, 81, 0), o1, o2, o3, o4, o5, some (0, 0, a6), some (0, 0, a7), some (0, 0, a8), o9] [(0, 0, a6)] (ab_ups σ 81 5 (fw_c (b1 + b0))))) : G 157 [some (2, 81, 0), o1, o2, o3, o4, o5, some (0, 0, a6), some (0, 0, a7), some (0, 0, a8), o9] [(0, 0, b0), (0, 0, b1), (2, 81, 0)] σ := fw_on hG [9, 12, 18, 27, 34, 46, 68, 86, 114, 117, 130, 139, 140, 157, 175, 192, 197] 200 h
theorem fs_spendRound_175 {G : fw_K} {R : fw_KR} (hG : fw_cls st_spendRound R G) {a7 a8 b0 : Int} {o1 o2 o3 o4 o5 o6 o9 : Option ab_AV} {σ : ab_SG} (h : sp_atp [(2, 83, 0), (0, 0, b0)] σ (fun rv σ2 => G 192 [some (2, 81, 0), o1, o2, o3, o4, o5, o6, some (0, 0, a7), some (0, 0, a8), some (0, 0, b0)] (rv.toList ++ [(0, 0, b0), (2, 83, 0)]) σ2)) : G 175 [some (2, 81, 0), o1, o2, o3, o4, o5, o6, some (0, 0, a7), some (0, 0, a8), o9] [(0, 0, b0)] σ := fw_on hG [9, 12, 18, 27, 34, 46, 68, 86, 114, 117, 130, 139, 140, 157, 175, 192, 197] 200 h
theorem fs_spendRound_192 {G : fw_K} {R : fw_KR} (hG : fw_cls st_spendRound R G) {a7 a8 b0 b1 : Int} {o1 o2 o3 o4 o5 o6 o9 : Option ab_AV} {σ : ab_SG} (h : sp_put83 [(2, 83, 0), (0, 0, b1), (0, 0, b0 + 1)] σ (fun rv σ2 => G 197 [some (2, 81, 0), o1, o2, o3, o4, o5, o6, some (0, 0, a7), some (0, 0, a8), o9] (rv.toList ++ []) σ2)) : G 192 [some (2, 81, 0), o1, o2, o3, o4, o5, o6, some (0, 0, a7), some (0, 0, a8), o9] [(0, 0, b0), (0, 0, b1), (2, 83, 0)] σ := fw_on hG [9, 12, 18, 27, 34, 46, 68, 86, 114, 117, 130, 139, 140, 157, 175, 192, 197] 200 h
theorem fs_spendRound_197 {G : fw_K} {R : fw_KR} (hG : fw_cls st_spendRound R G) {a7 a8 : Int} {o1 o2 o3 o4 o5 o6 o9 : Option ab_AV} {σ : ab_SG} (h : R none σ) : G 197 [some (2, 81, 0), o1, o2, o3, o4, o5, o6, some (0, 0, a7), some (0, 0, a8), o9] [] σ := fw_on hG [9, 12, 18, 27, 34, 46, 68, 86, 114, 117, 130, 139, 140, 157, 175, 192, 197] 200 h
abbrev fk_spend : List fw_CR := [(34, 2, true, 4, 4, sp_spendRound)]
abbrev st_spend : fw_K → fw_KR → fw_K := fw_st vwCl nn_sh nn_kd fw_kv fw_wc (nn_KI8.map (fun x => x.1)) (nn_KJ8.map (fun x => x.1)) (nn_PF8.map (fun x => x.1)) (nn_PS8.map (fun x => x.1)) fk_spend 5 nn_dt160 6 4
theorem fs_spend_0 {G : fw_K} {R : fw_KR} (hG : fw_cls st_spend R G) {p q z : Int} {σ : ab_SG} (h : (0 ≤ fw_c 0 ∧ fw_c 0 < ((2 : Nat) : Int)) ∧ True ∧ ((0 ≤ fw_c 1 ∧ fw_c 1 < ((2 : Nat) : Int)) ∧ True ∧ ((0 ≤ fw_c 0 ∧ fw_c 0 < ((2 : Nat) : Int)) ∧ True ∧ ((0 ≤ fw_c 1 ∧ fw_c 1 < ((2 : Nat) : Int)) ∧ True ∧ (G 53 [some (2, 81, 0), some (2, 3, 0), some (0, 0, p), some (0, 0, q), some (0, 0, z), some (0, 0, 0)] [] (ab_ups (ab_ups (ab_ups (ab_ups (ab_ups (ab_ups (ab_ups (ab_ups σ 82 (fw_c 0).toNat (fw_c p)) 82 (fw_c 1).toNat (fw_c q)) 83 (fw_c 0).toNat (fw_c 0)) 83 (fw_c 1).toNat (fw_c 0)) 81 3 (fw_c z)) 81 4 (fw_c 0)) 81 5 (fw_c 0)) 81 6 (fw_c 9))))))) : G 0 [some (2, 81, 0), some (2, 3, 0), some (0, 0, p), some (0, 0, q), some (0, 0, z), none] [] σ := fw_on hG [53, 88] 200 h
theorem fs_spend_53 {G : fw_K} {R : fw_KR} (hG : fw_cls st_spend R G) {a4 a5 : Int} {o2 o3 : Option ab_AV} {σ : ab_SG} (h : (fw_c 5 ≤ fw_c a5 → R none σ) ∧ (fw_c a5 < fw_c 5 → (0 ≤ fw_c 0 ∧ fw_c 0 < ((2 : Nat) : Int)) ∧ ((fw_c 3 ≤ fw_c (σ 83 (fw_c 0).toNat) → R none σ) ∧ (fw_c (σ 83 (fw_c 0).toNat) < fw_c 3 → (0 ≤ fw_c 1 ∧ fw_c 1 < ((2 : Nat) : Int)) ∧ ((fw_c 3 ≤ fw_c (σ 83 (fw_c 1).toNat) → R none σ) ∧ (fw_c (σ 83 (fw_c 1).toNat) < fw_c 3 → fw_c 2 ≠ 0 ∧ (sp_spendRound [(2, 81, 0), (2, 3, 0), (0, 0, fw_op 4 a5 2)] σ (fun rv σ2 => G 88 [some (2, 81, 0), some (2, 3, 0), o2, o3, some (0, 0, a4), some (0, 0, a5)] (rv.toList ++ []) σ2)))))))) : G 53 [some (2, 81, 0), some (2, 3, 0), o2, o3, some (0, 0, a4), some (0, 0, a5)] [] σ := fw_on hG [53, 88] 200 h
theorem fs_spend_88 {G : fw_K} {R : fw_KR} (hG : fw_cls st_spend R G) {a4 a5 : Int} {o2 o3 : Option ab_AV} {σ : ab_SG} (h : G 53 [some (2, 81, 0), some (2, 3, 0), o2, o3, some (0, 0, a4), some (0, 0, a5 + 1)] [] (ab_ups σ 81 4 (fw_c ((σ 81 4) + 1)))) : G 88 [some (2, 81, 0), some (2, 3, 0), o2, o3, some (0, 0, a4), some (0, 0, a5)] [] σ := fw_on hG [53, 88] 200 h
abbrev fk_firstWins : List fw_CR := []
abbrev st_firstWins : fw_K → fw_KR → fw_K := fw_st vwCl nn_sh nn_kd fw_kv fw_wc (nn_KI8.map (fun x => x.1)) (nn_KJ8.map (fun x => x.1)) (nn_PF8.map (fun x => x.1)) (nn_PS8.map (fun x => x.1)) fk_firstWins 0 nn_dt167 1 1
theorem fs_firstWins_0 {G : fw_K} {R : fw_KR} (hG : fw_cls st_firstWins R G) {σ : ab_SG} (h : (0 ≤ fw_c 0 ∧ fw_c 0 < ((2 : Nat) : Int)) ∧ ((fw_c (σ 83 (fw_c 0).toNat) < fw_c 3 → (0 ≤ fw_c 0 ∧ fw_c 0 ≤ 1) ∧ R (some (0, 0, 0)) σ) ∧ (fw_c 3 ≤ fw_c (σ 83 (fw_c 0).toNat) → (0 ≤ fw_c 1 ∧ fw_c 1 ≤ 1) ∧ R (some (0, 0, 1)) σ))) : G 0 [some (2, 81, 0)] [] σ := fw_on hG [] 200 h
abbrev fk_canSpendNight : List fw_CR := [(173, 1, true, 6, 0, sp_isPerson3)]
abbrev st_canSpendNight : fw_K → fw_KR → fw_K := fw_st vwCl nn_sh nn_kd fw_kv fw_wc (nn_KI1.map (fun x => x.1)) (nn_KJ1.map (fun x => x.1)) (nn_PF1.map (fun x => x.1)) (nn_PS1.map (fun x => x.1)) fk_canSpendNight 2 nn_dt159 3 1
theorem fs_canSpendNight_0 {G : fw_K} {R : fw_KR} (hG : fw_cls st_canSpendNight R G) {p q : Int} {σ : ab_SG} (h : sp_isPerson3 [(2, 3, 0), (0, 0, p)] σ (fun rv σ2 => G 8 [some (2, 0, 0), some (0, 0, p), some (0, 0, q)] (rv.toList ++ []) σ2)) : G 0 [some (2, 0, 0), some (0, 0, p), some (0, 0, q)] [] σ := fw_on hG [8, 19] 200 h
theorem fs_canSpendNight_8 {G : fw_K} {R : fw_KR} (hG : fw_cls st_canSpendNight R G) {a1 a2 b0 : Int} {σ : ab_SG} (h : (fw_c b0 = 0 → (0 ≤ fw_c 0 ∧ fw_c 0 ≤ 1) ∧ R (some (0, 0, 0)) σ) ∧ (fw_c b0 ≠ 0 → sp_isPerson3 [(2, 3, 0), (0, 0, a2)] σ (fun rv σ2 => G 19 [some (2, 0, 0), some (0, 0, a1), some (0, 0, a2)] (rv.toList ++ []) σ2))) : G 8 [some (2, 0, 0), some (0, 0, a1), some (0, 0, a2)] [(0, 0, b0)] σ := fw_on hG [8, 19] 200 h
theorem fs_canSpendNight_19 {G : fw_K} {R : fw_KR} (hG : fw_cls st_canSpendNight R G) {a1 a2 b0 : Int} {σ : ab_SG} (h : (fw_c b0 = 0 → (0 ≤ fw_c 0 ∧ fw_c 0 ≤ 1) ∧ R (some (0, 0, 0)) σ) ∧ (fw_c b0 ≠ 0 → (fw_c a1 = fw_c a2 → (0 ≤ fw_c 0 ∧ fw_c 0 ≤ 1) ∧ R (some (0, 0, 0)) σ) ∧ (fw_c a1 ≠ fw_c a2 → (fw_c (σ 3 12) ≤ 0 → (0 ≤ fw_c 0 ∧ fw_c 0 ≤ 1) ∧ R (some (0, 0, 0)) σ) ∧ (0 < fw_c (σ 3 12) → (0 ≤ fw_c 1 ∧ fw_c 1 ≤ 1) ∧ R (some (0, 0, 1)) σ)))) : G 19 [some (2, 0, 0), some (0, 0, a1), some (0, 0, a2)] [(0, 0, b0)] σ := fw_on hG [8, 19] 200 h
abbrev fk_nights : List fw_CR := [(405, 2, true, 10, 2, sp_canSpendNight), (408, 4, true, 4, 5, sp_spend), (424, 0, true, 4, 0, sp_firstWins)]
abbrev st_nights : fw_K → fw_KR → fw_K := fw_st vwCl nn_sh nn_kd fw_kv fw_wc (nn_KI1.map (fun x => x.1)) (nn_KJ1.map (fun x => x.1)) (nn_PF1.map (fun x => x.1)) (nn_PS1.map (fun x => x.1)) fk_nights 6 nn_dt169 7 0
theorem fs_nights_0 {G : fw_K} {R : fw_KR} (hG : fw_cls st_nights R G) {p q n z : Int} {σ : ab_SG} (h : sp_canSpendNight [(2, 0, 0), (0, 0, p), (0, 0, q)] σ (fun rv σ2 => G 6 [some (2, 0, 0), some (0, 0, p), some (0, 0, q), some (0, 0, n), some (0, 0, z), none, none] (rv.toList ++ []) σ2)) : G 0 [some (2, 0, 0), some (0, 0, p), some (0, 0, q), some (0, 0, n), some (0, 0, z), none, none] [] σ := fw_on hG [6, 28, 52, 61, 69] 200 h
theorem fs_nights_6 {G : fw_K} {R : fw_KR} (hG : fw_cls st_nights R G) {a1 a2 a3 a4 b0 : Int} {o5 o6 : Option ab_AV} {σ : ab_SG} (h : (fw_c b0 = 0 → R (some (0, 0, (-1))) σ) ∧ (fw_c b0 ≠ 0 → (fw_c a3 < fw_c 1 → R (some (0, 0, (-1))) σ) ∧ (fw_c 1 ≤ fw_c a3 → (fw_c a3 ≤ fw_c 100 → G 28 [some (2, 0, 0), some (0, 0, a1), some (0, 0, a2), some (0, 0, a3), some (0, 0, a4), some (0, 0, 0), some (0, 0, 0)] [] σ) ∧ (fw_c 100 < fw_c a3 → R (some (0, 0, (-1))) σ)))) : G 6 [some (2, 0, 0), some (0, 0, a1), some (0, 0, a2), some (0, 0, a3), some (0, 0, a4), o5, o6] [(0, 0, b0)] σ := fw_on hG [6, 28, 52, 61, 69] 200 h
theorem fs_nights_28 {G : fw_K} {R : fw_KR} (hG : fw_cls st_nights R G) {a1 a2 a3 a4 a5 a6 : Int} {σ : ab_SG} (h : (fw_c a3 ≤ fw_c a6 → R (some (0, 0, a5)) σ) ∧ (fw_c a6 < fw_c a3 → sp_spend [(2, 81, 0), (2, 3, 0), (0, 0, a1), (0, 0, a2), (0, 0, a4 + a6)] σ (fun rv σ2 => G 52 [some (2, 0, 0), some (0, 0, a1), some (0, 0, a2), some (0, 0, a3), some (0, 0, a4), some (0, 0, a5), some (0, 0, a6)] (rv.toList ++ []) σ2))) : G 28 [some (2, 0, 0), some (0, 0, a1), some (0, 0, a2), some (0, 0, a3), some (0, 0, a4), some (0, 0, a5), some (0, 0, a6)] [] σ := fw_on hG [6, 28, 52, 61, 69] 200 h
theorem fs_nights_52 {G : fw_K} {R : fw_KR} (hG : fw_cls st_nights R G) {a1 a2 a3 a4 a5 a6 : Int} {σ : ab_SG} (h : sp_firstWins [(2, 81, 0)] σ (fun rv σ2 => G 61 [some (2, 0, 0), some (0, 0, a1), some (0, 0, a2), some (0, 0, a3), some (0, 0, a4), some (0, 0, a5), some (0, 0, a6)] (rv.toList ++ [(0, 0, a5)]) σ2)) : G 52 [some (2, 0, 0), some (0, 0, a1), some (0, 0, a2), some (0, 0, a3), some (0, 0, a4), some (0, 0, a5), some (0, 0, a6)] [] σ := fw_on hG [6, 28, 52, 61, 69] 200 h
theorem fs_nights_61 {G : fw_K} {R : fw_KR} (hG : fw_cls st_nights R G) {a1 a2 a3 a4 a6 b0 b1 : Int} {o5 : Option ab_AV} {σ : ab_SG} (h : (fw_c b0 = 0 → G 69 [some (2, 0, 0), some (0, 0, a1), some (0, 0, a2), some (0, 0, a3), some (0, 0, a4), o5, some (0, 0, a6)] [(0, 0, 0), (0, 0, b1)] σ) ∧ (fw_c b0 ≠ 0 → G 69 [some (2, 0, 0), some (0, 0, a1), some (0, 0, a2), some (0, 0, a3), some (0, 0, a4), o5, some (0, 0, a6)] [(0, 0, 1), (0, 0, b1)] σ)) : G 61 [some (2, 0, 0), some (0, 0, a1), some (0, 0, a2), some (0, 0, a3), some (0, 0, a4), o5, some (0, 0, a6)] [(0, 0, b0), (0, 0, b1)] σ := fw_on hG [6, 28, 52, 61, 69] 200 h
theorem fs_nights_69 {G : fw_K} {R : fw_KR} (hG : fw_cls st_nights R G) {a1 a2 a3 a4 a6 b0 b1 : Int} {o5 : Option ab_AV} {σ : ab_SG} (h : G 28 [some (2, 0, 0), some (0, 0, a1), some (0, 0, a2), some (0, 0, a3), some (0, 0, a4), some (0, 0, b1 + b0), some (0, 0, a6 + 1)] [] σ) : G 69 [some (2, 0, 0), some (0, 0, a1), some (0, 0, a2), some (0, 0, a3), some (0, 0, a4), o5, some (0, 0, a6)] [(0, 0, b0), (0, 0, b1)] σ := fw_on hG [6, 28, 52, 61, 69] 200 h
section
variable {l : Launch} {cy : Nat → ClassId} {ad wr cr : Nat → Nat} {D : va_G}
theorem fm_at82 (hinj : nn_inj ad) : fw_H l cy ad wr cr D 29 0 (at_k 82 2) := fw_mk hinj (⟨"NameNotes", "at", "([II)I"⟩, prog_1_method_84_code, 2, (Option.some Jvm.ClassFile.FieldType.int), 2, false, 0) rfl rfl nn_KI1_ok nn_KJ1_ok nn_PF1_ok nn_PS1_ok (by decide +kernel) rfl rfl (fun _ h => absurd h List.not_mem_nil) (fun as σ K h => by
  obtain ⟨x, rfl, h1, h2⟩ := h
  exact ⟨rfl, fun G hG => at_gen (k := 82) (n := 2) (K := K) (σ := σ) (x := x) (by decide) (fs_at82_0 hG) h1 h2⟩)
theorem fm_at83 (hinj : nn_inj ad) : fw_H l cy ad wr cr D 29 0 (at_k 83 2) := fw_mk hinj (⟨"NameNotes", "at", "([II)I"⟩, prog_1_method_84_code, 2, (Option.some Jvm.ClassFile.FieldType.int), 2, false, 0) rfl rfl nn_KI1_ok nn_KJ1_ok nn_PF1_ok nn_PS1_ok (by decide +kernel) rfl rfl (fun _ h => absurd h List.not_mem_nil) (fun as σ K h => by
  obtain ⟨x, rfl, h1, h2⟩ := h
  exact ⟨rfl, fun G hG => at_gen (k := 83) (n := 2) (K := K) (σ := σ) (x := x) (by decide) (fs_at83_0 hG) h1 h2⟩)
theorem fm_at84 (hinj : nn_inj ad) : fw_H l cy ad wr cr D 29 0 (at_k 84 2) := fw_mk hinj (⟨"NameNotes", "at", "([II)I"⟩, prog_1_method_84_code, 2, (Option.some Jvm.ClassFile.FieldType.int), 2, false, 0) rfl rfl nn_KI1_ok nn_KJ1_ok nn_PF1_ok nn_PS1_ok (by decide +kernel) rfl rfl (fun _ h => absurd h List.not_mem_nil) (fun as σ K h => by
  obtain ⟨x, rfl, h1, h2⟩ := h
  exact ⟨rfl, fun G hG => at_gen (k := 84) (n := 2) (K := K) (σ := σ) (x := x) (by decide) (fs_at84_0 hG) h1 h2⟩)
theorem fm_put83 (hinj : nn_inj ad) : fw_H l cy ad wr cr D 27 0 (put_k 83 2) := fw_mk hinj (⟨"NameNotes", "put", "([III)V"⟩, prog_1_method_86_code, 3, (Option.none : Option Jvm.ClassFile.FieldType), 3, false, 4) rfl rfl nn_KI1_ok nn_KJ1_ok nn_PF1_ok nn_PS1_ok (by decide +kernel) rfl rfl (fun _ h => absurd h List.not_mem_nil) (fun as σ K h => by
  obtain ⟨x, v, rfl, h1, h2⟩ := h
  exact ⟨rfl, fun G hG => put_gen (k := 83) (n := 2) (K := K) (σ := σ) (x := x) (c := fw_c v) (by decide) (fs_put83_0 hG) h1 h2⟩)
theorem fm_put84 (hinj : nn_inj ad) : fw_H l cy ad wr cr D 27 0 (put_k 84 2) := fw_mk hinj (⟨"NameNotes", "put", "([III)V"⟩, prog_1_method_86_code, 3, (Option.none : Option Jvm.ClassFile.FieldType), 3, false, 4) rfl rfl nn_KI1_ok nn_KJ1_ok nn_PF1_ok nn_PS1_ok (by decide +kernel) rfl rfl (fun _ h => absurd h List.not_mem_nil) (fun as σ K h => by
  obtain ⟨x, v, rfl, h1, h2⟩ := h
  exact ⟨rfl, fun G hG => put_gen (k := 84) (n := 2) (K := K) (σ := σ) (x := x) (c := fw_c v) (by decide) (fs_put84_0 hG) h1 h2⟩)
theorem fm_atp (hinj : nn_inj ad) : fw_H l cy ad wr cr D 29 0 sp_atp := fw_H_of (List.forall_mem_cons.mpr ⟨fm_at82 hinj, List.forall_mem_cons.mpr ⟨fm_at83 hinj, List.forall_mem_cons.mpr ⟨fm_at84 hinj, List.forall_mem_cons.mpr ⟨fm_at10 hinj, (fun _ h => absurd h List.not_mem_nil)⟩⟩⟩⟩)
theorem fm_draw (hinj : nn_inj ad) : fw_H l cy ad wr cr D 162 0 sp_draw := fw_mk hinj (⟨"NameNotes$Night", "draw", "(I)I"⟩, prog_6_method_8_code, 2, (Option.some Jvm.ClassFile.FieldType.int), 1, true, 0) rfl rfl nn_KI8_ok nn_KJ8_ok nn_PF8_ok nn_PS8_ok (by decide +kernel) rfl rfl (fun _ h => absurd h List.not_mem_nil) (fun as σ K h => by
  obtain ⟨n, rfl, hn, h⟩ := h
  have cn : fw_c n = n := fw_c_id (by omega) (by omega)
  refine ⟨rfl, fun G hG => fs_draw_0 hG ?_⟩
  rw [cn]
  exact ⟨fun z => absurd z (by omega), fun _ => ⟨by omega, h⟩⟩)
theorem fm_nth (hinj : nn_inj ad) : fw_H l cy ad wr cr D 164 1 sp_nth := fw_mk hinj (⟨"NameNotes", "nth", "(II)I"⟩, prog_1_method_83_code, 4, (Option.some Jvm.ClassFile.FieldType.int), 2, false, 0) rfl rfl nn_KI1_ok nn_KJ1_ok nn_PF1_ok nn_PS1_ok (by decide +kernel) rfl rfl (List.forall_mem_cons.mpr ⟨fw_row nn_PM1_ok (x := 197) (k := 0) (mn := 34) (np := 2) (ob := false) (ci := 0) (⟨"NameNotes", "has", "(II)Z"⟩, prog_1_method_80_code, 2, (Option.some Jvm.ClassFile.FieldType.boolean), 2, false, 1) rfl (by decide +kernel) rfl rfl (by decide) (fun q => by cases q) (fm_has hinj), (fun _ h => absurd h List.not_mem_nil)⟩) (fun as σ K h => by
  obtain ⟨s, k, rfl, hk, h⟩ := h
  have ck : fw_c k = k := fw_s (by omega) (by omega)
  have c9 : fw_c 9 = 9 := fw_s (by decide) (by decide)
  refine ⟨rfl, fun G hG => fs_nth_0 hG ?_⟩
  have loop : ∀ (f x : Nat) (a : Int), x + f = 9 → (0 ≤ a ∧ a ≤ (x : Int)) → mb_f s k f x a = mb s k → G 4 [some (0, 0, s), some (0, 0, k), some (0, 0, a), some (0, 0, (x : Int))] [] σ := by
    intro f
    induction f with
    | zero =>
      intro x a hx ha e
      have ex : x = 9 := by omega
      subst ex
      refine fs_nth_4 hG ⟨fun _ => ?_, fun z => absurd z (by rw [c9, show fw_c ((9 : Nat) : Int) = 9 from c9]; decide)⟩
      rw [← e] at h
      exact h
    | succ f ih =>
      intro x a hx ha e
      have cx : fw_c (x : Int) = (x : Int) := fw_s (by omega) (by omega)
      have ca : fw_c a = a := fw_s (by omega) (by omega)
      rw [mb_s] at e
      refine fs_nth_4 hG ⟨fun z => absurd z (by rw [c9, cx]; omega), fun _ => ⟨s, _, rfl, by rw [cx]; omega, fs_nth_15 hG ⟨fun z => ?_, fun z => ?_⟩⟩⟩
      · have c : ¬ pr_hs s (x : Int) = true := fun y => fw_bo_eq z (hs_t y)
        rw [if_neg c] at e
        have g := ih (x + 1) a (by omega) (by omega) e
        exact fs_nth_28 hG g
      · have c : pr_hs s (x : Int) = true := hs_of (fw_bo_ne z)
        rw [if_pos c] at e
        rw [ca, ck]
        refine ⟨fun y => ?_, fun y => ?_⟩
        · rw [if_neg y] at e
          have g := ih (x + 1) (a + 1) (by omega) (by omega) e
          exact fs_nth_28 hG g
        · rw [if_pos y] at e
          rw [← e] at h
          exact h
  exact loop 9 0 0 rfl (by decide) rfl)
theorem fm_drawTune (hinj : nn_inj ad) : fw_H l cy ad wr cr D 163 2 sp_drawTune := fw_mk hinj (⟨"NameNotes$Night", "drawTune", "(I)I"⟩, prog_6_method_7_code, 2, (Option.some Jvm.ClassFile.FieldType.int), 1, true, 0) rfl rfl nn_KI8_ok nn_KJ8_ok nn_PF8_ok nn_PS8_ok (by decide +kernel) rfl rfl (List.forall_mem_cons.mpr ⟨fw_row nn_PM8_ok (x := 43) (k := 0) (mn := 162) (np := 1) (ob := true) (ci := 4) (⟨"NameNotes$Night", "draw", "(I)I"⟩, prog_6_method_8_code, 2, (Option.some Jvm.ClassFile.FieldType.int), 1, true, 0) rfl (by decide +kernel) rfl rfl (by decide) (fun _ => ⟨_, _, rfl⟩) (fm_draw hinj), (List.forall_mem_cons.mpr ⟨fw_row nn_PM8_ok (x := 89) (k := 0) (mn := 88) (np := 1) (ob := false) (ci := 0) (⟨"java/lang/Integer", "bitCount", "(I)I"⟩, prog_20_method_49_code, 1, (Option.some Jvm.ClassFile.FieldType.int), 1, false, 0) rfl (by decide +kernel) rfl rfl (by decide) (fun q => by cases q) (fm_bitc9 hinj), (List.forall_mem_cons.mpr ⟨fw_row nn_PM8_ok (x := 97) (k := 2) (mn := 164) (np := 2) (ob := false) (ci := 0) (⟨"NameNotes", "nth", "(II)I"⟩, prog_1_method_83_code, 4, (Option.some Jvm.ClassFile.FieldType.int), 2, false, 0) rfl (by decide +kernel) rfl rfl (by decide) (fun q => by cases q) (fm_nth hinj), (fun _ h => absurd h List.not_mem_nil)⟩)⟩)⟩) (fun as σ K h => by
  obtain ⟨s, rfl, hs, h⟩ := h
  have k1 := oz_cnt_pos hs.1 hs.2
  have k2 := oz_cnt_le (oz_P s) 9
  have v := nt_v_in (z := σ 81 3) (n := ((oz_cnt (oz_P s) 9 : Nat) : Int)) (by omega) (by omega)
  refine ⟨rfl, fun G hG => fs_drawTune_0 hG ⟨s, rfl, ⟨by omega, hs.2⟩, fs_drawTune_6 hG ⟨_, rfl, ⟨by omega, by omega⟩, fs_drawTune_9 hG ⟨s, _, rfl, ⟨v.1, by omega⟩, fs_drawTune_12 hG h⟩⟩⟩⟩)
theorem fm_drawKnown (hinj : nn_inj ad) : fw_H l cy ad wr cr D 165 2 sp_drawKnown := fw_mk hinj (⟨"NameNotes$Night", "drawKnown", "(LNameNotes$Studio;II)V"⟩, prog_6_method_5_code, 6, (Option.none : Option Jvm.ClassFile.FieldType), 3, true, 4) rfl rfl nn_KI8_ok nn_KJ8_ok nn_PF8_ok nn_PS8_ok (by decide +kernel) rfl rfl (List.forall_mem_cons.mpr ⟨fw_row nn_PM8_ok (x := 43) (k := 0) (mn := 162) (np := 1) (ob := true) (ci := 4) (⟨"NameNotes$Night", "draw", "(I)I"⟩, prog_6_method_8_code, 2, (Option.some Jvm.ClassFile.FieldType.int), 1, true, 0) rfl (by decide +kernel) rfl rfl (by decide) (fun _ => ⟨_, _, rfl⟩) (fm_draw hinj), (List.forall_mem_cons.mpr ⟨fw_row nn_PM8_ok (x := 70) (k := 2) (mn := 29) (np := 2) (ob := false) (ci := 0) (⟨"NameNotes", "at", "([II)I"⟩, prog_1_method_84_code, 2, (Option.some Jvm.ClassFile.FieldType.int), 2, false, 0) rfl (by decide +kernel) rfl rfl (by decide) (fun q => by cases q) (fm_atp hinj), (List.forall_mem_cons.mpr ⟨fw_row nn_PM8_ok (x := 78) (k := 2) (mn := 27) (np := 3) (ob := false) (ci := 0) (⟨"NameNotes", "put", "([III)V"⟩, prog_1_method_86_code, 3, (Option.none : Option Jvm.ClassFile.FieldType), 3, false, 4) rfl (by decide +kernel) rfl rfl (by decide) (fun q => by cases q) (fm_put84 hinj), (List.forall_mem_cons.mpr ⟨fw_row nn_PM8_ok (x := 82) (k := 2) (mn := 34) (np := 2) (ob := false) (ci := 0) (⟨"NameNotes", "has", "(II)Z"⟩, prog_1_method_80_code, 2, (Option.some Jvm.ClassFile.FieldType.boolean), 2, false, 1) rfl (by decide +kernel) rfl rfl (by decide) (fun q => by cases q) (fm_has hinj), (List.forall_mem_cons.mpr ⟨fw_row nn_PM8_ok (x := 86) (k := 0) (mn := 68) (np := 2) (ob := true) (ci := 6) (⟨"NameNotes$Studio", "ninth", "(II)I"⟩, prog_8_method_13_code, 3, (Option.some Jvm.ClassFile.FieldType.int), 2, true, 0) rfl (by decide +kernel) rfl rfl (by decide) (fun _ => ⟨_, _, rfl⟩) (fm_ninth3 hinj), (fun _ h => absurd h List.not_mem_nil)⟩)⟩)⟩)⟩)⟩) (fun as σ K h => by
  obtain ⟨A, sd, p, s, rfl, hsd, hN, h82, hp, h⟩ := h
  have c9 : fw_c 9 = 9 := fw_s (by decide) (by decide)
  have cs : fw_c (sd : Int) = (sd : Int) := fw_s (by omega) (by omega)
  have rw9 : ∀ j : Nat, j < 45 → σ 9 j = A 55 j := hN.2.2.2.2.2.2.2.2.1
  refine ⟨rfl, fun G hG => fs_drawKnown_0 hG ?_⟩
  have loop : ∀ (f x : Nat) (τ : ab_SG), x + f = 9 → ab_okM [(81, 3)] σ τ → τ 81 3 = (nt_k A p s (σ 81 3) x).1 → G 6 [some (2, 81, 0), some (2, 3, 0), some (0, 0, (sd : Int)), some (0, 0, s), some (0, 0, (nt_k A p s (σ 81 3) x).2), some (0, 0, (x : Int))] [] τ := by
    intro f
    induction f with
    | zero =>
      intro x τ hx M e
      have ex : x = 9 := by omega
      subst ex
      have b := nt_k_b A p s (σ 81 3) 9 (Nat.le_refl 9)
      refine fs_drawKnown_6 hG ⟨fun _ => ⟨_, _, rfl, fun _ => fs_drawKnown_70 hG ?_, fun z => absurd (by rw [cs]; omega) z⟩, fun z => absurd z (by rw [c9, show fw_c ((9 : Nat) : Int) = 9 from c9]; decide)⟩
      rw [cs, Int.toNat_natCast, fw_s (x := (nt_k A p s (σ 81 3) 9).2) (by omega) (by omega)]
      refine h _ (fw_okM_upa (od_up M (by decide)) (by decide)) ?_ ab_ups_eq (fun j hj => ?_)
      · rw [ab_ups_ne (fun z => absurd z.1 (by decide))]
        exact e
      · rw [ab_ups_ne (fun z => hj z.2)]
        exact mk_row M (by decide) j
    | succ f ih =>
      intro x τ hx M e
      have cx : fw_c (x : Int) = (x : Int) := fw_s (by omega) (by omega)
      have b := nt_k_b A p s (σ 81 3) x (by omega)
      refine fs_drawKnown_6 hG ⟨fun z => absurd z (by rw [c9, cx]; omega), fun _ => ⟨s, _, rfl, by rw [cx]; omega, fs_drawKnown_19 hG ⟨fun z => ?_, fun z => ?_⟩⟩⟩
      · have c : ¬ pr_hs s (x : Int) = true := fun y => fw_bo_eq z (hs_t y)
        have e2 : nt_k A p s (σ 81 3) (x + 1) = nt_k A p s (σ 81 3) x := by rw [nt_ks, if_neg c]
        have g := ih (x + 1) τ (by omega) M (by rw [e2]; exact e)
        rw [e2] at g
        exact fs_drawKnown_54 hG g
      · have c : pr_hs s (x : Int) = true := hs_of (fw_bo_ne z)
        have e2 : nt_k A p s (σ 81 3) (x + 1) = (nt_s (nt_k A p s (σ 81 3) x).1, if nt_v (nt_k A p s (σ 81 3) x).1 9 < A 55 (9 * p + x) then fw_op 9 (nt_k A p s (σ 81 3) x).2 (fw_op 5 1 (x : Int)) else (nt_k A p s (σ 81 3) x).2) := by rw [nt_ks, if_pos c]
        refine ⟨9, rfl, ⟨by decide, by decide⟩, fs_drawKnown_28 hG ⟨(82, 2), by decide, _, rfl, fun _ => ?_, fun y => absurd (by rw [cs]; show _ ∧ _ < (2 : Int); omega) y⟩⟩
        have v := nt_v_in (z := τ 81 3) (n := 9) (by decide) (by decide)
        have M2 : ab_okM [(81, 3)] σ (ab_ups τ 81 3 (nt_s (τ 81 3))) := fw_okM_ups M (by decide)
        have e3 : (ab_ups τ 81 3 (nt_s (τ 81 3))) 81 3 = nt_s (nt_k A p s (σ 81 3) x).1 := by rw [ab_ups_eq, e]
        rw [cs, Int.toNat_natCast, mk_row M2 (by decide) sd, h82]
        generalize ab_ups τ 81 3 (nt_s (τ 81 3)) = τ2 at M2 e3 ⊢
        refine fs_drawKnown_37 hG ⟨p, x, rfl, hp, by omega, ?_⟩
        rw [mk_row M2 (by decide) (9 * p + x), rw9 (9 * p + x) (by omega)]
        have kb := oz_kn_b hN (show 9 * p + x < 45 by omega)
        refine fs_drawKnown_42 hG ?_
        rw [fw_s (x := A 55 (9 * p + x)) (by omega) (by omega), fw_s (x := nt_v (τ 81 3) 9) (by omega) (by omega), e]
        refine ⟨fun y => ?_, fun y => ?_⟩
        · rw [if_neg (by omega)] at e2
          have g := ih (x + 1) τ2 (by omega) M2 (by rw [e2]; exact e3)
          rw [e2] at g
          exact fs_drawKnown_54 hG g
        · rw [if_pos y] at e2
          have g := ih (x + 1) τ2 (by omega) M2 (by rw [e2]; exact e3)
          rw [e2] at g
          exact fs_drawKnown_54 hG g
  exact loop 9 0 σ rfl (fw_okM_refl _ _) rfl)
theorem fm_wouldBid (hinj : nn_inj ad) : fw_H l cy ad wr cr D 166 3 sp_wouldBid := fw_mk hinj (⟨"NameNotes$Night", "wouldBid", "(LNameNotes$Studio;III)Z"⟩, prog_6_method_6_code, 7, (Option.some Jvm.ClassFile.FieldType.boolean), 4, true, 1) rfl rfl nn_KI8_ok nn_KJ8_ok nn_PF8_ok nn_PS8_ok (by decide +kernel) rfl rfl (List.forall_mem_cons.mpr ⟨fw_row nn_PM8_ok (x := 70) (k := 2) (mn := 29) (np := 2) (ob := false) (ci := 0) (⟨"NameNotes", "at", "([II)I"⟩, prog_1_method_84_code, 2, (Option.some Jvm.ClassFile.FieldType.int), 2, false, 0) rfl (by decide +kernel) rfl rfl (by decide) (fun q => by cases q) (fm_atp hinj), (List.forall_mem_cons.mpr ⟨fw_row nn_PM8_ok (x := 74) (k := 0) (mn := 74) (np := 4) (ob := true) (ci := 6) (⟨"NameNotes$Studio", "likes", "(IIII)I"⟩, prog_8_method_23_code, 7, (Option.some Jvm.ClassFile.FieldType.int), 4, true, 0) rfl (by decide +kernel) rfl rfl (by decide) (fun _ => ⟨_, _, rfl⟩) (fm_likes3 hinj), (List.forall_mem_cons.mpr ⟨fw_row nn_PM8_ok (x := 82) (k := 2) (mn := 34) (np := 2) (ob := false) (ci := 0) (⟨"NameNotes", "has", "(II)Z"⟩, prog_1_method_80_code, 2, (Option.some Jvm.ClassFile.FieldType.boolean), 2, false, 1) rfl (by decide +kernel) rfl rfl (by decide) (fun q => by cases q) (fm_has hinj), (List.forall_mem_cons.mpr ⟨fw_row nn_PM8_ok (x := 89) (k := 0) (mn := 88) (np := 1) (ob := false) (ci := 0) (⟨"java/lang/Integer", "bitCount", "(I)I"⟩, prog_20_method_49_code, 1, (Option.some Jvm.ClassFile.FieldType.int), 1, false, 0) rfl (by decide +kernel) rfl rfl (by decide) (fun q => by cases q) (fm_bitc9 hinj), (fun _ h => absurd h List.not_mem_nil)⟩)⟩)⟩)⟩) (fun as σ K h => by
  obtain ⟨A, sd, p, x, n, m, a, b, rfl, ⟨rfl, rfl⟩, hsd, hN, h82, hp, h84, hx, hn, h⟩ := h
  have nn := N_n hN.1
  have cs : fw_c (sd : Int) = (sd : Int) := fw_s (by omega) (by omega)
  have cn : fw_c (n : Int) = (n : Int) := fw_s (by omega) (by omega)
  have cx : fw_c (x : Int) = (x : Int) := fw_s (by omega) (by omega)
  have cp : fw_c (p : Int) = (p : Int) := fw_s (by omega) (by omega)
  have no : ¬ nt_w A p m x n → (0 ≤ fw_c 0 ∧ fw_c 0 ≤ 1) ∧ K (some (0, 0, 0)) σ := fun z => ⟨fw_01, by rw [fw_bo_f z] at h; exact h⟩
  refine ⟨rfl, fun G hG => fs_wouldBid_0 hG ⟨(84, 2), by decide, _, rfl, fun _ => ?_, fun y => absurd (by rw [cs]; show _ ∧ _ < (2 : Int); omega) y⟩⟩
  rw [cs, Int.toNat_natCast, h84]
  refine fs_wouldBid_8 hG ?_
  rw [cn, fw_c1]
  refine ⟨fun z => no (fun w => by have := w.1; omega), fun z => ⟨m, _, rfl, by rw [cx]; omega, fs_wouldBid_22 hG ⟨fun y => ?_, fun y => no (fun w => fw_bo_eq y (hs_t w.2.1))⟩⟩⟩
  have hs : pr_hs m (x : Int) = true := hs_of (fw_bo_ne y)
  have lb := v_lk_b A (x : Int) (n : Int) 0 m (A 49 11).toNat (by omega)
  have k2 := oz_cnt_le (oz_P (v_lk A (x : Int) (n : Int) 0 m (A 49 11).toNat)) 9
  have db := hN.2.1.2.2.2.1 p hp
  refine ⟨A, x, (n : Int), 0, m, rfl, hN, hx, ⟨by omega, by omega⟩, by decide, fs_wouldBid_37 hG ⟨_, rfl, lb, fs_wouldBid_40 hG ⟨(82, 2), by decide, _, rfl, fun _ => ?_, fun y => absurd (by rw [cs]; show _ ∧ _ < (2 : Int); omega) y⟩⟩⟩
  rw [cs, Int.toNat_natCast, h82]
  refine fs_wouldBid_60 hG ⟨(10, 5), by decide, _, rfl, fun _ => ?_, fun y => absurd (by rw [cp]; show _ ∧ _ < (5 : Int); omega) y⟩
  rw [cp, Int.toNat_natCast, show σ 10 p = A 56 p from hN.2.2.2.2.2.2.2.2.2.1 p hp]
  refine fs_wouldBid_63 hG ?_
  show (fw_c (9 - A 56 p) < fw_c (((oz_cnt (oz_P (v_lk A (x : Int) (n : Int) 0 m (A 49 11).toNat)) 9 : Nat) : Int) - 1) → _) ∧ (fw_c (((oz_cnt (oz_P (v_lk A (x : Int) (n : Int) 0 m (A 49 11).toNat)) 9 : Nat) : Int) - 1) ≤ fw_c (9 - A 56 p) → _)
  rw [fw_s (x := 9 - A 56 p) (by omega) (by omega), fw_s (x := ((oz_cnt (oz_P (v_lk A (x : Int) (n : Int) 0 m (A 49 11).toNat)) 9 : Nat) : Int) - 1) (by omega) (by omega)]
  refine ⟨fun w => no (fun u => by have := u.2.2; omega), fun w => ⟨fw_11, ?_⟩⟩
  rw [fw_bo_t ⟨by omega, hs, by omega⟩] at h
  exact h)
theorem fm_spendRound (hinj : nn_inj ad) : fw_H l cy ad wr cr D 161 4 sp_spendRound := fw_mk hinj (⟨"NameNotes$Night", "spendRound", "(LNameNotes$Studio;I)V"⟩, prog_6_method_4_code, 10, (Option.none : Option Jvm.ClassFile.FieldType), 2, true, 4) rfl rfl nn_KI8_ok nn_KJ8_ok nn_PF8_ok nn_PS8_ok (by decide +kernel) rfl rfl (List.forall_mem_cons.mpr ⟨fw_row nn_PM8_ok (x := 43) (k := 0) (mn := 162) (np := 1) (ob := true) (ci := 4) (⟨"NameNotes$Night", "draw", "(I)I"⟩, prog_6_method_8_code, 2, (Option.some Jvm.ClassFile.FieldType.int), 1, true, 0) rfl (by decide +kernel) rfl rfl (by decide) (fun _ => ⟨_, _, rfl⟩) (fm_draw hinj), (List.forall_mem_cons.mpr ⟨fw_row nn_PM8_ok (x := 47) (k := 0) (mn := 64) (np := 1) (ob := true) (ci := 6) (⟨"NameNotes$Studio", "setOf", "(I)I"⟩, prog_8_method_8_code, 2, (Option.some Jvm.ClassFile.FieldType.int), 1, true, 0) rfl (by decide +kernel) rfl rfl (by decide) (fun _ => ⟨_, _, rfl⟩) (fm_setOf3 hinj), (List.forall_mem_cons.mpr ⟨fw_row nn_PM8_ok (x := 50) (k := 0) (mn := 163) (np := 1) (ob := true) (ci := 4) (⟨"NameNotes$Night", "drawTune", "(I)I"⟩, prog_6_method_7_code, 2, (Option.some Jvm.ClassFile.FieldType.int), 1, true, 0) rfl (by decide +kernel) rfl rfl (by decide) (fun _ => ⟨_, _, rfl⟩) (fm_drawTune hinj), (List.forall_mem_cons.mpr ⟨fw_row nn_PM8_ok (x := 53) (k := 0) (mn := 165) (np := 3) (ob := true) (ci := 4) (⟨"NameNotes$Night", "drawKnown", "(LNameNotes$Studio;II)V"⟩, prog_6_method_5_code, 6, (Option.none : Option Jvm.ClassFile.FieldType), 3, true, 4) rfl (by decide +kernel) rfl rfl (by decide) (fun _ => ⟨_, _, rfl⟩) (fm_drawKnown hinj), (List.forall_mem_cons.mpr ⟨fw_row nn_PM8_ok (x := 60) (k := 0) (mn := 166) (np := 4) (ob := true) (ci := 4) (⟨"NameNotes$Night", "wouldBid", "(LNameNotes$Studio;III)Z"⟩, prog_6_method_6_code, 7, (Option.some Jvm.ClassFile.FieldType.boolean), 4, true, 1) rfl (by decide +kernel) rfl rfl (by decide) (fun _ => ⟨_, _, rfl⟩) (fm_wouldBid hinj), (List.forall_mem_cons.mpr ⟨fw_row nn_PM8_ok (x := 70) (k := 2) (mn := 29) (np := 2) (ob := false) (ci := 0) (⟨"NameNotes", "at", "([II)I"⟩, prog_1_method_84_code, 2, (Option.some Jvm.ClassFile.FieldType.int), 2, false, 0) rfl (by decide +kernel) rfl rfl (by decide) (fun q => by cases q) (fm_atp hinj), (List.forall_mem_cons.mpr ⟨fw_row nn_PM8_ok (x := 74) (k := 0) (mn := 74) (np := 4) (ob := true) (ci := 6) (⟨"NameNotes$Studio", "likes", "(IIII)I"⟩, prog_8_method_23_code, 7, (Option.some Jvm.ClassFile.FieldType.int), 4, true, 0) rfl (by decide +kernel) rfl rfl (by decide) (fun _ => ⟨_, _, rfl⟩) (fm_likes3 hinj), (List.forall_mem_cons.mpr ⟨fw_row nn_PM8_ok (x := 78) (k := 2) (mn := 27) (np := 3) (ob := false) (ci := 0) (⟨"NameNotes", "put", "([III)V"⟩, prog_1_method_86_code, 3, (Option.none : Option Jvm.ClassFile.FieldType), 3, false, 4) rfl (by decide +kernel) rfl rfl (by decide) (fun q => by cases q) (fm_put83 hinj), (fun _ h => absurd h List.not_mem_nil)⟩)⟩)⟩)⟩)⟩)⟩)⟩)⟩) (fun as σ K h => by
  obtain ⟨A, p, q, t, a, rfl, rfl, hN, ⟨hp, hq⟩, hcl, ⟨h82p, h82q⟩, hI, hB, h3, h⟩ := h
  have nn := N_n hN.1
  have fb := hN.2.1.2.2.2.2
  have ok := nr_ok hN.1 hN.2.1 hcl t.1
  have v1 := nt_v_in (z := t.1) (n := A 49 12) (by omega) (by omega)
  obtain ⟨i1, i2, i3, i4, i5, i6⟩ := hI
  obtain ⟨b1, b2, b3, b4, b5, b6⟩ := hB
  have hfi : t.2.2.2.1 % 2 < 2 := Nat.mod_lt _ (by decide)
  unfold ng_1 at h
  generalize t.2.2.2.1 % 2 = fi at h hfi ⊢
  have bi := nr_b_in hN.2.1 (p := p) (q := q) hfi t.1
  have es : v_set A (nt_v t.1 (A 49 12)) = nr_s A t.1 := by
    unfold v_set nr_s
    rw [if_neg (by omega)]
  refine ⟨rfl, fun G hG => ?_⟩
  have fin2 : ∀ (τ : ab_SG) (w : Nat) (o1 o2 o3 o4 o5 o6 : Option ab_AV) (a7 a8 : Int) (o9 : Option ab_AV), w < 2 → nr_w A p q fi t.1 = w → ab_okM nz_R σ τ → τ 81 3 = nr_z A p q fi t.1 → τ 83 0 = (t.2.1 : Int) → τ 83 1 = (t.2.2.1 : Int) → τ 81 5 = ((t.2.2.2.2.1 + nr_g A p q fi t.1 : Nat) : Int) → τ 81 6 = mnN t.2.2.2.2.2 ((nr_b A p q fi t.1).1 : Int) → G 175 [some (2, 81, 0), o1, o2, o3, o4, o5, o6, some (0, 0, a7), some (0, 0, a8), o9] [(0, 0, (w : Int))] τ := by
    intro τ w o1 o2 o3 o4 o5 o6 a7 a8 o9 hw ew M e3 ea eb e5 e6
    have cw : fw_c (w : Int) = (w : Int) := fw_s (by omega) (by omega)
    refine fs_spendRound_175 hG ⟨(83, 2), by decide, _, rfl, fun _ => ?_, fun y => absurd (by rw [cw]; show _ ∧ _ < (2 : Int); omega) y⟩
    rw [cw, Int.toNat_natCast]
    refine fs_spendRound_192 hG ⟨_, _, rfl, fun _ => fs_spendRound_197 hG ?_, fun y => absurd (by rw [cw]; omega) y⟩
    rw [cw, Int.toNat_natCast]
    rcases (show w = 0 ∨ w = 1 by omega) with rfl | rfl
    · show K none (ab_ups τ 83 0 (fw_c (τ 83 0 + 1)))
      rw [ea, fw_s (x := (t.2.1 : Int) + 1) (by omega) (by omega)]
      refine h _ (fw_okM_upa M (by decide)) ⟨?_, ?_, ?_, ?_, ?_⟩
      · rw [ab_ups_ne (fun z => absurd z.1 (by decide))]
        exact e3
      · rw [ab_ups_eq]
        show (t.2.1 : Int) + 1 = ((if nr_w A p q fi t.1 = 0 then t.2.1 + 1 else t.2.1 : Nat) : Int)
        rw [if_pos ew]
        rfl
      · rw [ab_ups_ne (fun z => absurd z.2 (by decide))]
        show τ 83 1 = ((if nr_w A p q fi t.1 = 0 then t.2.2.1 else t.2.2.1 + 1 : Nat) : Int)
        rw [if_pos ew]
        exact eb
      · rw [ab_ups_ne (fun z => absurd z.1 (by decide))]
        exact e5
      · rw [ab_ups_ne (fun z => absurd z.1 (by decide))]
        exact e6
    · have nw : ¬ nr_w A p q fi t.1 = 0 := by omega
      show K none (ab_ups τ 83 1 (fw_c (τ 83 1 + 1)))
      rw [eb, fw_s (x := (t.2.2.1 : Int) + 1) (by omega) (by omega)]
      refine h _ (fw_okM_upa M (by decide)) ⟨?_, ?_, ?_, ?_, ?_⟩
      · rw [ab_ups_ne (fun z => absurd z.1 (by decide))]
        exact e3
      · rw [ab_ups_ne (fun z => absurd z.2 (by decide))]
        show τ 83 0 = ((if nr_w A p q fi t.1 = 0 then t.2.1 + 1 else t.2.1 : Nat) : Int)
        rw [if_neg nw]
        exact ea
      · rw [ab_ups_eq]
        show (t.2.2.1 : Int) + 1 = ((if nr_w A p q fi t.1 = 0 then t.2.2.1 else t.2.2.1 + 1 : Nat) : Int)
        rw [if_neg nw]
        rfl
      · rw [ab_ups_ne (fun z => absurd z.1 (by decide))]
        exact e5
      · rw [ab_ups_ne (fun z => absurd z.1 (by decide))]
        exact e6
  have fin : ∀ (τ : ab_SG) (g : Nat) (o1 o2 o3 o4 o5 : Option ab_AV) (a7 : Int) (o9 : Option ab_AV), nr_g A p q fi t.1 = g → ab_okM nz_R σ τ → τ 81 3 = nr_z A p q fi t.1 → τ 83 0 = (t.2.1 : Int) → τ 83 1 = (t.2.2.1 : Int) → τ 81 5 = (t.2.2.2.2.1 : Int) → τ 81 6 = mnN t.2.2.2.2.2 ((nr_b A p q fi t.1).1 : Int) → G 140 [some (2, 81, 0), o1, o2, o3, o4, o5, some (0, 0, ((nr_b A p q fi t.1).2 : Int)), some (0, 0, a7), none, o9] [(0, 0, (g : Int))] τ := by
    intro τ g o1 o2 o3 o4 o5 a7 o9 eg M e3 ea eb e5 e6
    have k3 : ∀ v : Int, (ab_ups τ 81 5 v) 81 3 = nr_z A p q fi t.1 := fun v => (ab_ups_ne (fun z => absurd z.2 (by decide))).trans e3
    have k6 : ∀ v : Int, (ab_ups τ 81 5 v) 81 6 = mnN t.2.2.2.2.2 ((nr_b A p q fi t.1).1 : Int) := fun v => (ab_ups_ne (fun z => absurd z.2 (by decide))).trans e6
    have ka : ∀ v : Int, (ab_ups τ 81 5 v) 83 0 = (t.2.1 : Int) := fun v => (ab_ups_ne (fun z => absurd z.1 (by decide))).trans ea
    have kb : ∀ v : Int, (ab_ups τ 81 5 v) 83 1 = (t.2.2.1 : Int) := fun v => (ab_ups_ne (fun z => absurd z.1 (by decide))).trans eb
    have c1 : fw_c ((1 : Nat) : Int) = 1 := fw_c1
    have c0 : fw_c ((0 : Nat) : Int) = 0 := fw_c0
    by_cases hg : nr_G A p q fi t.1
    · have e1 : nr_g A p q fi t.1 = 1 := if_pos hg
      have ew : nr_w A p q fi t.1 = (nr_b A p q fi t.1).2 := if_pos hg
      have eg1 : g = 1 := eg.symm.trans e1
      subst eg1
      refine fs_spendRound_140 hG ⟨fun y => absurd y (by rw [c1]; decide), fun _ => fs_spendRound_157 hG ⟨fun y => absurd y (by rw [c1]; decide), fun _ => fin2 _ _ _ _ _ _ _ _ _ _ _ bi.2 ew (fw_okM_ups M (by decide)) (k3 _) (ka _) (kb _) ?_ (k6 _)⟩⟩
      rw [ab_ups_eq, e5, e1, fw_s (x := (t.2.2.2.2.1 : Int) + 1) (by omega) (by omega)]
      rfl
    · have e1 : nr_g A p q fi t.1 = 0 := if_neg hg
      have ew : nr_w A p q fi t.1 = 1 - (nr_b A p q fi t.1).2 := if_neg hg
      have eg1 : g = 0 := eg.symm.trans e1
      subst eg1
      refine fs_spendRound_140 hG ⟨fun _ => fs_spendRound_157 hG ⟨fun _ => ?_, fun y => absurd c0 y⟩, fun y => absurd c0 y⟩
      have g := fin2 (ab_ups τ 81 5 (fw_c (τ 81 5 + 0))) (1 - (nr_b A p q fi t.1).2) o1 o2 o3 o4 o5 (some (0, 0, ((nr_b A p q fi t.1).2 : Int))) a7 ((0 : Nat) : Int) o9 (by omega) ew (fw_okM_ups M (by decide)) (k3 _) (ka _) (kb _) (by rw [ab_ups_eq, e5, e1, Int.add_zero, Nat.add_zero]; exact fw_s (by omega) (by omega)) (k6 _)
      rw [show ((1 - (nr_b A p q fi t.1).2 : Nat) : Int) = 1 - ((nr_b A p q fi t.1).2 : Int) by omega] at g
      exact g
  refine fs_spendRound_0 hG ?_
  rw [show σ 3 12 = A 49 12 from hN.2.2.2.1]
  refine ⟨_, rfl, ⟨by omega, by omega⟩, fs_spendRound_9 hG ?_⟩
  rw [i1]
  have M1 : ab_okM nz_K σ (ab_ups σ 81 3 (nt_s t.1)) := fw_okM_ups (fw_okM_refl _ _) (by decide)
  have e1 : (ab_ups σ 81 3 (nt_s t.1)) 81 3 = nt_s t.1 := ab_ups_eq
  generalize ab_ups σ 81 3 (nt_s t.1) = σ1 at M1 e1 ⊢
  have NCt : ∀ τ : ab_SG, ab_okM nz_K σ τ → NC τ A := fun τ M => oz_NCM M (by decide +kernel) hN
  refine ⟨A, _, rfl, NCt σ1 M1, ⟨by omega, v1.2⟩, ?_⟩
  rw [es]
  refine fs_spendRound_12 hG ⟨nr_s A t.1, rfl, ok.1, ?_⟩
  rw [e1, ok.2.2.2.2.1]
  have M2 : ab_okM nz_K σ (ab_ups σ1 81 3 (nt_s (nt_s t.1))) := fw_okM_ups M1 (by decide)
  have e2 : (ab_ups σ1 81 3 (nt_s (nt_s t.1))) 81 3 = nt_s (nt_s t.1) := ab_ups_eq
  generalize ab_ups σ1 81 3 (nt_s (nt_s t.1)) = σ2 at M2 e2 ⊢
  refine fs_spendRound_18 hG ⟨A, 0, p, nr_s A t.1, rfl, by decide, NCt σ2 M2, (mk_row M2 (by decide) 0).trans h82p, hp, fun σ3 M3 s3 f3 _ => ?_⟩
  rw [e2] at s3 f3
  have M3 : ab_okM nz_K σ σ3 := on_trans M2 M3
  refine fs_spendRound_27 hG ⟨A, 1, q, nr_s A t.1, rfl, by decide, NCt σ3 M3, (mk_row M3 (by decide) 1).trans h82q, hq, fun σ4 M4 s4 f4 g4 => ?_⟩
  rw [s3] at s4 f4
  have M4 : ab_okM nz_K σ σ4 := on_trans M3 M4
  have z4 : σ4 81 3 = (nr_1 A p q t.1).1 := s4
  have m4 : ∀ s : Nat, s < 2 → σ4 84 s = nr_M A p q t.1 s := by
    intro s hs
    rcases (show s = 0 ∨ s = 1 by omega) with rfl | rfl
    · exact (g4 0 (by decide)).trans f3
    · exact f4
  have p4 : ∀ s : Nat, s < 2 → σ4 82 s = ((nr_P p q s : Nat) : Int) := by
    intro s hs
    rcases (show s = 0 ∨ s = 1 by omega) with rfl | rfl
    · exact (mk_row M4 (by decide) 0).trans h82p
    · exact (mk_row M4 (by decide) 1).trans h82q
  have P5 : ∀ s : Nat, nr_P p q s < 5 := by
    intro s
    unfold nr_P
    split <;> omega
  have N4 := NCt σ4 M4
  have l4 : σ4 81 6 = t.2.2.2.2.2 := (mk_at M4 (by decide)).trans i6
  have r4 : σ4 81 5 = (t.2.2.2.2.1 : Int) := (mk_at M4 (by decide)).trans i5
  have ka : σ4 83 0 = (t.2.1 : Int) := (mk_row M4 (by decide) 0).trans i2
  have kb : σ4 83 1 = (t.2.2.1 : Int) := (mk_row M4 (by decide) 1).trans i3
  have M4R : ab_okM nz_R σ σ4 := od_up M4 (by decide)
  -- behind the last bid
  have named : ∀ (o2 o3 : Option ab_AV) (a7 : Int) (o9 : Option ab_AV), G 86 [some (2, 81, 0), some (2, 3, 0), o2, o3, some (0, 0, (nr_x A t.1 : Int)), some (0, 0, ((nr_b A p q fi t.1).1 : Int)), some (0, 0, ((nr_b A p q fi t.1).2 : Int)), some (0, 0, a7), none, o9] [] σ4 := by
    intro o2 o3 a7 o9
    have cs : fw_c ((nr_b A p q fi t.1).2 : Int) = ((nr_b A p q fi t.1).2 : Int) := fw_s (by omega) (by omega)
    have cn : fw_c ((nr_b A p q fi t.1).1 : Int) = ((nr_b A p q fi t.1).1 : Int) := fw_s (by omega) (by omega)
    have mb5 := mnN_b (b := ((nr_b A p q fi t.1).1 : Int)) b5 (by omega)
    refine fs_spendRound_86 hG ?_
    rw [cn, l4, fw_s (x := t.2.2.2.2.2) (by omega) (by omega), show (if ((nr_b A p q fi t.1).1 : Int) < t.2.2.2.2.2 then ((nr_b A p q fi t.1).1 : Int) else t.2.2.2.2.2) = mnN t.2.2.2.2.2 ((nr_b A p q fi t.1).1 : Int) from rfl, fw_s (x := mnN t.2.2.2.2.2 ((nr_b A p q fi t.1).1 : Int)) (by omega) (by omega)]
    have M5 : ab_okM nz_R σ (ab_ups σ4 81 6 (mnN t.2.2.2.2.2 ((nr_b A p q fi t.1).1 : Int))) := fw_okM_ups M4R (by decide)
    have N5 : NC (ab_ups σ4 81 6 (mnN t.2.2.2.2.2 ((nr_b A p q fi t.1).1 : Int))) A := oz_NCM M5 (by decide +kernel) hN
    have l5 : (ab_ups σ4 81 6 (mnN t.2.2.2.2.2 ((nr_b A p q fi t.1).1 : Int))) 81 6 = mnN t.2.2.2.2.2 ((nr_b A p q fi t.1).1 : Int) := ab_ups_eq
    have r5 : (ab_ups σ4 81 6 (mnN t.2.2.2.2.2 ((nr_b A p q fi t.1).1 : Int))) 81 5 = (t.2.2.2.2.1 : Int) := (ab_ups_ne (fun z => absurd z.2 (by decide))).trans r4
    have z5 : (ab_ups σ4 81 6 (mnN t.2.2.2.2.2 ((nr_b A p q fi t.1).1 : Int))) 81 3 = (nr_1 A p q t.1).1 := (ab_ups_ne (fun z => absurd z.2 (by decide))).trans z4
    have ka5 : (ab_ups σ4 81 6 (mnN t.2.2.2.2.2 ((nr_b A p q fi t.1).1 : Int))) 83 0 = (t.2.1 : Int) := (ab_ups_ne (fun z => absurd z.1 (by decide))).trans ka
    have kb5 : (ab_ups σ4 81 6 (mnN t.2.2.2.2.2 ((nr_b A p q fi t.1).1 : Int))) 83 1 = (t.2.2.1 : Int) := (ab_ups_ne (fun z => absurd z.1 (by decide))).trans kb
    have m5 : (ab_ups σ4 81 6 (mnN t.2.2.2.2.2 ((nr_b A p q fi t.1).1 : Int))) 84 (nr_b A p q fi t.1).2 = nr_M A p q t.1 (nr_b A p q fi t.1).2 := (ab_ups_ne (fun z => absurd z.1 (by decide))).trans (m4 _ bi.2)
    generalize ab_ups σ4 81 6 (mnN t.2.2.2.2.2 ((nr_b A p q fi t.1).1 : Int)) = σ5 at M5 N5 l5 r5 z5 ka5 kb5 m5 ⊢
    refine ⟨(84, 2), by decide, _, rfl, fun _ => ?_, fun y => absurd (by rw [cs]; show _ ∧ _ < (2 : Int); omega) y⟩
    rw [cs, Int.toNat_natCast, m5]
    refine fs_spendRound_114 hG ⟨A, nr_x A t.1, _, 0, _, rfl, N5, ok.2.2.2.2.2, ⟨by omega, by omega⟩, by decide, ?_⟩
    show G 117 _ [(0, 0, nr_l A p q fi t.1)] σ5
    have lb : 0 ≤ nr_l A p q fi t.1 ∧ nr_l A p q fi t.1 < 512 := v_lk_b A _ _ 0 _ (A 49 11).toNat (by omega)
    have cl : fw_c (nr_l A p q fi t.1) = nr_l A p q fi t.1 := fw_s (by omega) (by omega)
    refine fs_spendRound_117 hG ?_
    rw [cl]
    refine ⟨fun y => ?_, fun y => ?_⟩
    · have hz : nr_z A p q fi t.1 = (nr_1 A p q t.1).1 := if_pos y
      have hg : nr_g A p q fi t.1 = 0 := if_neg (fun w => w.1 y)
      exact fs_spendRound_139 hG (fin σ5 0 _ _ _ _ _ _ _ hg M5 (z5.trans hz.symm) ka5 kb5 r5 l5)
    · have hz : nr_z A p q fi t.1 = nt_s (nr_1 A p q t.1).1 := if_neg y
      have k1 := oz_cnt_pos (s := nr_l A p q fi t.1) (by omega) lb.2
      have k2 := oz_cnt_le (oz_P (nr_l A p q fi t.1)) 9
      have v2 := nt_v_in (z := (nr_1 A p q t.1).1) (n := nr_n (nr_l A p q fi t.1)) (by unfold nr_n; omega) (by unfold nr_n; omega)
      obtain ⟨w, w1, w2, -⟩ := mb_in (s := nr_l A p q fi t.1) v2.1 v2.2
      refine ⟨_, rfl, ⟨by omega, lb.2⟩, fs_spendRound_130 hG ?_⟩
      rw [z5, w2, fw_s (x := (w : Int)) (by omega) (by omega), fw_s (x := (nr_x A t.1 : Int)) (by have := ok.2.2.2.1; omega) (by have := ok.2.2.2.1; omega)]
      have M6 : ab_okM nz_R σ (ab_ups σ5 81 3 (nt_s (nr_1 A p q t.1).1)) := fw_okM_ups M5 (by decide)
      have z6 : (ab_ups σ5 81 3 (nt_s (nr_1 A p q t.1).1)) 81 3 = nr_z A p q fi t.1 := by rw [ab_ups_eq, hz]
      have l6 : (ab_ups σ5 81 3 (nt_s (nr_1 A p q t.1).1)) 81 6 = mnN t.2.2.2.2.2 ((nr_b A p q fi t.1).1 : Int) := (ab_ups_ne (fun z => absurd z.2 (by decide))).trans l5
      have r6 : (ab_ups σ5 81 3 (nt_s (nr_1 A p q t.1).1)) 81 5 = (t.2.2.2.2.1 : Int) := (ab_ups_ne (fun z => absurd z.2 (by decide))).trans r5
      have ka6 : (ab_ups σ5 81 3 (nt_s (nr_1 A p q t.1).1)) 83 0 = (t.2.1 : Int) := (ab_ups_ne (fun z => absurd z.1 (by decide))).trans ka5
      have kb6 : (ab_ups σ5 81 3 (nt_s (nr_1 A p q t.1).1)) 83 1 = (t.2.2.1 : Int) := (ab_ups_ne (fun z => absurd z.1 (by decide))).trans kb5
      refine ⟨fun u => ?_, fun u => ?_⟩
      · have hg : nr_g A p q fi t.1 = 0 := if_neg (fun x => by have := x.2; rw [w2] at this; exact u this)
        exact fs_spendRound_139 hG (fin _ 0 _ _ _ _ _ _ _ hg M6 z6 ka6 kb6 r6 l6)
      · have hg : nr_g A p q fi t.1 = 1 := if_pos ⟨y, by rw [w2]; exact u⟩
        exact fin _ 1 _ _ _ _ _ _ _ hg M6 z6 ka6 kb6 r6 l6
  refine fs_spendRound_34 hG ?_
  rw [show σ4 3 14 = A 49 14 from N4.2.2.2.2.2.1]
  obtain ⟨F, eF⟩ := Int.eq_ofNat_of_zero_le (show 0 ≤ A 49 14 by omega)
  have eb : nr_b A p q fi t.1 = nt_b A (nr_P p q) (nr_M A p q t.1) (nr_x A t.1) F fi := by
    unfold nr_b
    rw [eF, Int.toNat_natCast]
  have c9 : fw_c 9 = 9 := fw_s (by decide) (by decide)
  have loop : ∀ (n s i : Nat) (o2 o3 o9 : Option ab_AV), 1 ≤ n → i + n = F → s < 2 → nt_b A (nr_P p q) (nr_M A p q t.1) (nr_x A t.1) n s = nr_b A p q fi t.1 → G 46 [some (2, 81, 0), some (2, 3, 0), o2, o3, some (0, 0, (nr_x A t.1 : Int)), some (0, 0, (n : Int)), some (0, 0, (s : Int)), some (0, 0, (i : Int)), none, o9] [] σ4 := by
    intro n
    induction n with
    | zero => intro s i o2 o3 o9 h1 _ _ _; omega
    | succ n ih =>
      intro s i o2 o3 o9 _ hi hs e
      have ci : fw_c (i : Int) = (i : Int) := fw_s (by omega) (by omega)
      refine fs_spendRound_46 hG ⟨fun y => absurd y (by rw [c9, ci]; omega), fun _ => ⟨A, 1 - s, nr_P p q (1 - s), nr_x A t.1, n, _, _, _, rfl, ⟨by omega, by omega⟩, by omega, N4, p4 (1 - s) (by omega), P5 _, m4 (1 - s) (by omega), ok.2.2.2.2.2, by omega, fs_spendRound_68 hG ⟨fun y => ?_, fun y => ?_⟩⟩⟩
      · rw [nt_bs, if_neg (fw_bo_eq y)] at e
        have g := named o2 o3 (i : Int) o9
        rw [← e] at g
        exact g
      · have w := fw_bo_ne y
        rw [nt_bs, if_pos w] at e
        have g := ih (1 - s) (i + 1) o2 o3 o9 w.1 (by omega) (by omega) e
        rw [show ((1 - s : Nat) : Int) = 1 - (s : Int) by omega, show ((i + 1 : Nat) : Int) = (i : Int) + 1 from rfl] at g
        rw [show ((n + 1 : Nat) : Int) + (-1) = (n : Int) by omega]
        exact g
  rw [eF]
  exact loop F fi 0 _ _ _ (by omega) (Nat.zero_add F) hfi eb.symm)
theorem fm_spend (hinj : nn_inj ad) : fw_H l cy ad wr cr D 160 5 sp_spend := fw_mk hinj (⟨"NameNotes$Night", "spend", "(LNameNotes$Studio;III)V"⟩, prog_6_method_2_code, 6, (Option.none : Option Jvm.ClassFile.FieldType), 4, true, 4) rfl rfl nn_KI8_ok nn_KJ8_ok nn_PF8_ok nn_PS8_ok (by decide +kernel) rfl rfl (List.forall_mem_cons.mpr ⟨fw_row nn_PM8_ok (x := 34) (k := 0) (mn := 161) (np := 2) (ob := true) (ci := 4) (⟨"NameNotes$Night", "spendRound", "(LNameNotes$Studio;I)V"⟩, prog_6_method_4_code, 10, (Option.none : Option Jvm.ClassFile.FieldType), 2, true, 4) rfl (by decide +kernel) rfl rfl (by decide) (fun _ => ⟨_, _, rfl⟩) (fm_spendRound hinj), (fun _ h => absurd h List.not_mem_nil)⟩) (fun as σ K h => by
  obtain ⟨A, p, q, z, rfl, hN, ⟨hp, hq⟩, hcl, h⟩ := h
  have c5 : fw_c 5 = 5 := fw_s (by decide) (by decide)
  have c3 : fw_c 3 = 3 := fw_s (by decide) (by decide)
  have c2 : fw_c 2 = 2 := fw_s (by decide) (by decide)
  have c9 : fw_c 9 = 9 := fw_s (by decide) (by decide)
  have cp : fw_c (p : Int) = (p : Int) := fw_s (by omega) (by omega)
  have cq : fw_c (q : Int) = (q : Int) := fw_s (by omega) (by omega)
  have t0 : (fw_c 0).toNat = 0 := by rw [fw_c0]; rfl
  have t1 : (fw_c 1).toNat = 1 := by rw [fw_c1]; rfl
  have b0 : 0 ≤ fw_c 0 ∧ fw_c 0 < ((2 : Nat) : Int) := by rw [fw_c0]; decide
  have b1 : 0 ≤ fw_c 1 ∧ fw_c 1 < ((2 : Nat) : Int) := by rw [fw_c1]; decide
  refine ⟨rfl, fun G hG => fs_spend_0 hG ⟨b0, trivial, b1, trivial, b0, trivial, b1, trivial, ?_⟩⟩
  rw [t0, t1, fw_c0, c9, cp, cq]
  have loop : ∀ (f i : Nat) (τ : ab_SG) (t : ng_T) (o2 o3 : Option ab_AV) (a4 : Int), i + f = 5 → t.2.2.2.1 = i → ab_okM nz_M σ τ → (τ 82 0 = (p : Int) ∧ τ 82 1 = (q : Int)) → nz_is τ t → ng_B t → ng A p q f t = v_ng A p q z → G 53 [some (2, 81, 0), some (2, 3, 0), o2, o3, some (0, 0, a4), some (0, 0, (i : Int))] [] τ := by
    intro f
    induction f with
    | zero =>
      intro i τ t o2 o3 a4 hi hr M h82 I B e
      have ei : i = 5 := by omega
      subst ei
      have e : t = v_ng A p q z := e
      rw [e] at I B
      exact fs_spend_53 hG ⟨fun _ => h τ M I B, fun y => absurd y (by rw [c5, show fw_c ((5 : Nat) : Int) = 5 from c5]; decide)⟩
    | succ f ih =>
      intro i τ t o2 o3 a4 hi hr M h82 I B e
      have ci : fw_c (i : Int) = (i : Int) := fw_s (by omega) (by omega)
      have I9 := I
      have B9 := B
      obtain ⟨i1, i2, i3, i4, i5, i6⟩ := I9
      obtain ⟨g1, g2, g3, g4, g5, g6⟩ := B9
      rw [ng_s] at e
      have out : ¬ (t.2.1 < 3 ∧ t.2.2.1 < 3) → K none τ := fun y => by
        rw [if_neg y] at e
        rw [e] at I B
        exact h τ M I B
      refine fs_spend_53 hG ⟨fun y => absurd y (by rw [c5, ci]; omega), fun _ => ⟨b0, ?_⟩⟩
      rw [t0, t1, i2, i3, fw_s (x := (t.2.1 : Int)) (by omega) (by omega), fw_s (x := (t.2.2.1 : Int)) (by omega) (by omega), c3]
      refine ⟨fun y => out (by omega), fun y1 => ⟨b1, fun y => out (by omega), fun y2 => ⟨by rw [c2]; decide, A, p, q, t, _, rfl, by rw [hr]; exact fw_m2 i (by omega), oz_NCM M (by decide +kernel) hN, ⟨hp, hq⟩, hcl, h82, I, B, ⟨by omega, by omega⟩, fun σ1 M1 E => fs_spend_88 hG ?_⟩⟩⟩
      obtain ⟨e1, e2, e3, e4, e5⟩ := E
      rw [if_pos ⟨by omega, by omega⟩] at e
      have n1 := ng_1B hN.2.1 (p := p) (q := q) B ⟨by omega, by omega⟩
      have k4 : σ1 81 4 = (t.2.2.2.1 : Int) := (mk_at M1 (by decide)).trans i4
      have ev : fw_c (σ1 81 4 + 1) = ((i + 1 : Nat) : Int) := by
        rw [k4, hr, fw_s (x := (i : Int) + 1) (by omega) (by omega)]
        rfl
      rw [ev]
      have g := ih (i + 1) (ab_ups σ1 81 4 ((i + 1 : Nat) : Int)) (ng_1 A p q t) o2 o3 a4 (by omega) (by show t.2.2.2.1 + 1 = i + 1; rw [hr]) (fw_okM_ups (on_trans M (od_up M1 (by decide))) (by decide)) ⟨(ab_ups_ne (fun z => absurd z.1 (by decide))).trans ((mk_row M1 (by decide) 0).trans h82.1), (ab_ups_ne (fun z => absurd z.1 (by decide))).trans ((mk_row M1 (by decide) 1).trans h82.2)⟩ ⟨(ab_ups_ne (fun z => absurd z.2 (by decide))).trans e1, (ab_ups_ne (fun z => absurd z.1 (by decide))).trans e2, (ab_ups_ne (fun z => absurd z.1 (by decide))).trans e3, by rw [ab_ups_eq]; show ((i + 1 : Nat) : Int) = ((t.2.2.2.1 + 1 : Nat) : Int); rw [hr], (ab_ups_ne (fun z => absurd z.2 (by decide))).trans e4, (ab_ups_ne (fun z => absurd z.2 (by decide))).trans e5⟩ n1 e
      exact g
  have T1 : ∀ {σ : ab_SG} {k j a b : Nat} {v : Int}, (a ≠ k ∨ b ≠ j) → (ab_ups σ k j v) a b = σ a b := fun hh => ab_ups_ne (fun z => hh.elim (fun y => y z.1) (fun y => y z.2))
  refine loop 5 0 _ (fw_c z, 0, 0, 0, 0, 9) _ _ _ rfl rfl ?_ ⟨?_, ?_⟩ ⟨?_, ?_, ?_, ?_, ?_, ?_⟩ ⟨Nat.zero_le 3, Nat.zero_le 3, rfl, Nat.le_refl 0, (show (1 : Int) ≤ 9 ∧ (9 : Int) ≤ 9 by decide), Nat.zero_le 5⟩ rfl
  · exact fw_okM_ups (fw_okM_ups (fw_okM_ups (fw_okM_ups (fw_okM_upa (fw_okM_upa (fw_okM_upa (fw_okM_upa (fw_okM_refl _ _) (by decide)) (by decide)) (by decide)) (by decide)) (by decide)) (by decide)) (by decide)) (by decide)
  · rw [T1 (by decide), T1 (by decide), T1 (by decide), T1 (by decide), T1 (by decide), T1 (by decide), T1 (by decide), ab_ups_eq]
  · rw [T1 (by decide), T1 (by decide), T1 (by decide), T1 (by decide), T1 (by decide), T1 (by decide), ab_ups_eq]
  · rw [T1 (by decide), T1 (by decide), T1 (by decide), ab_ups_eq]
  · rw [T1 (by decide), T1 (by decide), T1 (by decide), T1 (by decide), T1 (by decide), ab_ups_eq]
    rfl
  · rw [T1 (by decide), T1 (by decide), T1 (by decide), T1 (by decide), ab_ups_eq]
    rfl
  · rw [T1 (by decide), T1 (by decide), ab_ups_eq]
    rfl
  · rw [T1 (by decide), ab_ups_eq]
    rfl
  · rw [ab_ups_eq])
theorem fm_firstWins (hinj : nn_inj ad) : fw_H l cy ad wr cr D 167 0 sp_firstWins := fw_mk hinj (⟨"NameNotes$Night", "firstWins", "()Z"⟩, prog_6_method_3_code, 1, (Option.some Jvm.ClassFile.FieldType.boolean), 0, true, 1) rfl rfl nn_KI8_ok nn_KJ8_ok nn_PF8_ok nn_PS8_ok (by decide +kernel) rfl rfl (fun _ h => absurd h List.not_mem_nil) (fun as σ K h => by
  obtain ⟨rfl, h⟩ := h
  have t0 : (fw_c 0).toNat = 0 := by rw [fw_c0]; rfl
  have c3 : fw_c 3 = 3 := fw_s (by decide) (by decide)
  refine ⟨rfl, fun G hG => fs_firstWins_0 hG ⟨by rw [fw_c0]; decide, ?_⟩⟩
  rw [t0, c3]
  refine ⟨fun z => ⟨fw_01, ?_⟩, fun z => ⟨fw_11, ?_⟩⟩
  · rw [fw_bo_f (by omega)] at h
    exact h
  · rw [fw_bo_t z] at h
    exact h)
theorem fm_canSpendNight (hinj : nn_inj ad) : fw_H l cy ad wr cr D 159 2 sp_canSpendNight := fw_mk hinj (⟨"NameNotes", "canSpendNight", "(II)Z"⟩, prog_1_method_63_code, 3, (Option.some Jvm.ClassFile.FieldType.boolean), 2, true, 1) rfl rfl nn_KI1_ok nn_KJ1_ok nn_PF1_ok nn_PS1_ok (by decide +kernel) rfl rfl (List.forall_mem_cons.mpr ⟨fw_row nn_PM1_ok (x := 173) (k := 0) (mn := 67) (np := 1) (ob := true) (ci := 6) (⟨"NameNotes$Studio", "isPerson", "(I)Z"⟩, prog_8_method_6_code, 2, (Option.some Jvm.ClassFile.FieldType.boolean), 1, true, 1) rfl (by decide +kernel) rfl rfl (by decide) (fun _ => ⟨_, _, rfl⟩) (fm_isPerson3 hinj), (fun _ h => absurd h List.not_mem_nil)⟩) (fun as σ K h => by
  obtain ⟨A, p, q, rfl, ⟨ep, eq⟩, hN, h⟩ := h
  have nn := N_n hN.1
  have no : ¬ v_nb A p q → (0 ≤ fw_c 0 ∧ fw_c 0 ≤ 1) ∧ K (some (0, 0, 0)) σ := fun z => ⟨fw_01, by rw [fw_bo_f z] at h; exact h⟩
  refine ⟨rfl, fun G hG => fs_canSpendNight_0 hG ⟨p, rfl, fs_canSpendNight_8 hG ?_⟩⟩
  rw [oz_c_pe hN ep]
  refine ⟨fun z => no (fun w => fw_bo_eq z w.1), fun z1 => ⟨q, rfl, fs_canSpendNight_19 hG ?_⟩⟩
  rw [oz_c_pe hN eq, ep, eq, show σ 3 12 = A 49 12 from hN.2.2.2.1, fw_s (x := A 49 12) (by omega) (by omega)]
  refine ⟨fun z => no (fun w => fw_bo_eq z w.2.1), fun z2 => ⟨fun z => no (fun w => w.2.2.1 z), fun z3 => ⟨fun z => no (fun w => by have := w.2.2.2; omega), fun z4 => ⟨fw_11, ?_⟩⟩⟩⟩
  rw [fw_bo_t ⟨fw_bo_ne z1, fw_bo_ne z2, z3, z4⟩] at h
  exact h)
theorem fm_nights (hinj : nn_inj ad) : fw_H l cy ad wr cr D 169 6 sp_nights := fw_mk hinj (⟨"NameNotes", "nights", "(IIII)I"⟩, prog_1_method_52_code, 7, (Option.some Jvm.ClassFile.FieldType.int), 4, true, 0) rfl rfl nn_KI1_ok nn_KJ1_ok nn_PF1_ok nn_PS1_ok (by decide +kernel) rfl rfl (List.forall_mem_cons.mpr ⟨fw_row nn_PM1_ok (x := 405) (k := 0) (mn := 159) (np := 2) (ob := true) (ci := 10) (⟨"NameNotes", "canSpendNight", "(II)Z"⟩, prog_1_method_63_code, 3, (Option.some Jvm.ClassFile.FieldType.boolean), 2, true, 1) rfl (by decide +kernel) rfl rfl (by decide) (fun _ => ⟨_, _, rfl⟩) (fm_canSpendNight hinj), (List.forall_mem_cons.mpr ⟨fw_row nn_PM1_ok (x := 408) (k := 0) (mn := 160) (np := 4) (ob := true) (ci := 4) (⟨"NameNotes$Night", "spend", "(LNameNotes$Studio;III)V"⟩, prog_6_method_2_code, 6, (Option.none : Option Jvm.ClassFile.FieldType), 4, true, 4) rfl (by decide +kernel) rfl rfl (by decide) (fun _ => ⟨_, _, rfl⟩) (fm_spend hinj), (List.forall_mem_cons.mpr ⟨fw_row nn_PM1_ok (x := 424) (k := 0) (mn := 167) (np := 0) (ob := true) (ci := 4) (⟨"NameNotes$Night", "firstWins", "()Z"⟩, prog_6_method_3_code, 1, (Option.some Jvm.ClassFile.FieldType.boolean), 0, true, 1) rfl (by decide +kernel) rfl rfl (by decide) (fun _ => ⟨_, _, rfl⟩) (fm_firstWins hinj), (fun _ h => absurd h List.not_mem_nil)⟩)⟩)⟩) (fun as σ K h => by
  obtain ⟨A, p, q, n, z, rfl, ⟨ep, eq, en, ez⟩, hN, h⟩ := h
  have c100 : fw_c 100 = 100 := fw_s (by decide) (by decide)
  unfold v_nights at h
  have no : ¬ (v_nb A p q ∧ (1 ≤ n ∧ n ≤ 100)) → K (some (0, 0, (-1))) σ := fun y => by
    have k := h σ (fw_okM_refl _ _)
    rw [if_neg y] at k
    exact k
  refine ⟨rfl, fun G hG => fs_nights_0 hG ⟨A, p, q, rfl, ⟨ep, eq⟩, hN, fs_nights_6 hG ?_⟩⟩
  rw [en, fw_c1, c100]
  refine ⟨fun y => no (fun w => fw_bo_eq y w.1), fun y => ⟨fun u => no (fun w => by omega), fun u => ⟨fun v => ?_, fun v => no (fun w => by omega)⟩⟩⟩
  have hb := fw_bo_ne y
  have nn := N_n hN.1
  have hb9 := hb
  obtain ⟨h1, h2, hne, h4⟩ := hb9
  obtain ⟨p, rfl⟩ := Int.eq_ofNat_of_zero_le h1.1
  obtain ⟨q, rfl⟩ := Int.eq_ofNat_of_zero_le h2.1
  obtain ⟨N, rfl⟩ := Int.eq_ofNat_of_zero_le (show 0 ≤ n by omega)
  rw [if_pos ⟨hb, by omega⟩, Int.toNat_natCast] at h
  have loop : ∀ (f i : Nat) (τ : ab_SG), i + f = N → ab_okM nz_M σ τ → G 28 [some (2, 0, 0), some (0, 0, (p : Int)), some (0, 0, (q : Int)), some (0, 0, (N : Int)), some (0, 0, z), some (0, 0, ng_cnt A (p : Int) (q : Int) z i), some (0, 0, (i : Int))] [] τ := by
    intro f
    induction f with
    | zero =>
      intro i τ hi M
      have ei : i = N := by omega
      subst ei
      exact fs_nights_28 hG ⟨fun _ => h τ M, fun w => absurd w (Int.lt_irrefl _)⟩
    | succ f ih =>
      intro i τ hi M
      have ci : fw_c (i : Int) = (i : Int) := fw_s (by omega) (by omega)
      have cN : fw_c (N : Int) = (N : Int) := fw_s (by omega) (by omega)
      refine fs_nights_28 hG ⟨fun w => absurd w (by rw [ci, cN]; omega), fun _ => ⟨A, p, q, _, rfl, oz_NCM M (by decide +kernel) hN, ⟨by omega, by omega⟩, h4, fun σ1 M1 I B => fs_nights_52 hG ⟨rfl, fs_nights_61 hG ?_⟩⟩⟩
      have e5 : ng_win A (p : Int) (q : Int) (z + (i : Int)) = Nat.ble 3 (v_ng A p q (z + (i : Int))).2.1 := rfl
      have g3 := B.1
      rw [I.2.1, fw_s (x := ((v_ng A p q (z + (i : Int))).2.1 : Int)) (by omega) (by omega)]
      have nx : ∀ d : Int, ng_cnt A (p : Int) (q : Int) z (i + 1) = ng_cnt A (p : Int) (q : Int) z i + d → G 69 [some (2, 0, 0), some (0, 0, (p : Int)), some (0, 0, (q : Int)), some (0, 0, (N : Int)), some (0, 0, z), some (0, 0, ng_cnt A (p : Int) (q : Int) z i), some (0, 0, (i : Int))] [(0, 0, d), (0, 0, ng_cnt A (p : Int) (q : Int) z i)] σ1 := by
        intro d ed
        have g := ih (i + 1) σ1 (by omega) (on_trans M M1)
        rw [ed, show ((i + 1 : Nat) : Int) = (i : Int) + 1 from rfl] at g
        exact fs_nights_69 hG g
      refine ⟨fun u => nx 0 ?_, fun u => nx 1 ?_⟩
      · have u := fw_bo_eq u
        rw [ng_cs, e5, if_neg (fun v => u (by have := Nat.le_of_ble_eq_true v; omega)), Int.add_zero]
      · have u := fw_bo_ne u
        rw [ng_cs, e5, if_pos (Nat.ble_eq_true_of_le (by omega))]
  exact loop N 0 σ (Nat.zero_add N) (fw_okM_refl _ _))
end
end
section
/-! nights: the reference's -/
theorem nt_and {a b : Int} (ha : 0 ≤ a ∧ a < 512) (hb : 0 ≤ b ∧ b < 512) : (0 ≤ fw_op 8 a b ∧ fw_op 8 a b < 512) ∧ ∀ z : Nat, z < 9 → pr_hs (fw_op 8 a b) (z : Int) = (pr_hs a (z : Int) && pr_hs b (z : Int)) := by
  obtain ⟨x, rfl⟩ := Int.eq_ofNat_of_zero_le ha.1
  obtain ⟨y, rfl⟩ := Int.eq_ofNat_of_zero_le hb.1
  have hx : x < 512 := by omega
  have hy : y < 512 := by omega
  have e0 : ∀ m : Nat, m < 512 → (BitVec.ofInt 32 (m : Int)).toNat = m := fun m hm => by
    rw [BitVec.toNat_ofInt]
    omega
  have l : x &&& y ≤ x := Nat.and_le_left
  have e1 : ((BitVec.ofInt 32 (x : Int)) &&& (BitVec.ofInt 32 (y : Int))).toNat = x &&& y := by
    rw [BitVec.toNat_and, e0 x hx, e0 y hy]
  have e : fw_op 8 (x : Int) (y : Int) = ((x &&& y : Nat) : Int) := by
    show ((BitVec.ofInt 32 (x : Int)) &&& (BitVec.ofInt 32 (y : Int))).toInt = _
    rw [BitVec.toInt_eq_toNat_of_lt (by rw [e1]; omega), e1]
  rw [e]
  refine ⟨by omega, fun z hz => ?_⟩
  rw [hs_tb (by omega) hz, hs_tb hx hz, hs_tb hy hz, Nat.testBit_and]
theorem nt_ext {a b : Int} (ha : 0 ≤ a ∧ a < 512) (hb : 0 ≤ b ∧ b < 512) (h : ∀ z : Nat, z < 9 → pr_hs a (z : Int) = pr_hs b (z : Int)) : a = b := by
  obtain ⟨x, rfl⟩ := Int.eq_ofNat_of_zero_le ha.1
  obtain ⟨y, rfl⟩ := Int.eq_ofNat_of_zero_le hb.1
  have hx : x < 512 := by omega
  have hy : y < 512 := by omega
  have e : x = y := by
    refine Nat.eq_of_testBit_eq (fun i => ?_)
    by_cases c : i < 9
    · have g := h i c
      rw [hs_tb hx c, hs_tb hy c] at g
      exact g
    · have p : 512 ≤ 2 ^ i := show 2 ^ 9 ≤ 2 ^ i from Nat.pow_le_pow_right (by decide) (by omega)
      rw [Nat.testBit_lt_two_pow (by omega), Nat.testBit_lt_two_pow (by omega)]
  rw [e]
/-- of the tunes of a set alike those that she knows -/
theorem nt_lk (A : ab_SG) (hi : RI A) (x n : Int) {s m : Int} (hs : 0 ≤ s ∧ s < 512) (hm : 0 ≤ m ∧ m < 512) (hsub : ∀ w : Nat, w < 9 → pr_hs m (w : Int) = true → pr_hs s (w : Int) = true) : fw_op 8 (v_lk A x n 0 s (A 49 11).toNat) m = v_lk A x n 0 m (A 49 11).toNat := by
  have nn := N_n hi
  have b1 := v_lk_b A x n 0 s (A 49 11).toNat (by omega)
  have b2 := v_lk_b A x n 0 m (A 49 11).toNat (by omega)
  have a := nt_and b1 hm
  refine nt_ext a.1 b2 (fun z hz => ?_)
  rw [a.2 z hz]
  have k1 := v_lk_h A x n 0 s hz (A 49 11).toNat (by omega)
  have k2 := v_lk_h A x n 0 m hz (A 49 11).toNat (by omega)
  by_cases c : pr_hs m (z : Int) = true
  · rw [c, Bool.and_true]
    by_cases d : pr_hs (v_lk A x n 0 s (A 49 11).toNat) (z : Int) = true
    · have g := k1.mp d
      rw [d, k2.mpr ⟨g.1, c, g.2.2⟩]
    · have d2 : ¬ pr_hs (v_lk A x n 0 m (A 49 11).toNat) (z : Int) = true := fun y => by
        have g := k2.mp y
        exact d (k1.mpr ⟨g.1, hsub z hz c, g.2.2⟩)
      rw [Bool.eq_false_iff.mpr d, Bool.eq_false_iff.mpr d2]
  · have d2 : ¬ pr_hs (v_lk A x n 0 m (A 49 11).toNat) (z : Int) = true := fun y => c (k2.mp y).2.1
    rw [Bool.eq_false_iff.mpr c, Bool.eq_false_iff.mpr d2, Bool.and_false]
def nm_B : ab_ML := [(93, 54), (118, 1000000)]
def nm_R : ab_ML := [(93, 54), (118, 1000000), (120, 1000000)]
def nm_Z : ab_ML := (93, 0) :: nm_R
theorem nm_93 (σ : ab_SG) : ab_okM nm_Z σ (ab_ups σ 93 0 0) := fun a b q => ab_ups_ne (fun z => q (93, 0) (by decide) ⟨z.1.symm, Or.inl z.2.symm⟩)
/-- the reference's night -/
def mn_is (σ : ab_SG) (t : ng_T) : Prop := σ 93 54 = t.1 ∧ σ 120 1 = (t.2.1 : Int) ∧ σ 120 2 = (t.2.2.1 : Int) ∧ σ 120 0 = (t.2.2.2.1 : Int) ∧ σ 120 3 = (t.2.2.2.2.1 : Int) ∧ σ 120 4 = (if t.2.2.2.1 = 0 then 99 else t.2.2.2.2.2) ∧ (t.2.2.2.1 = 0 → t.2.2.2.2.2 = 9)
def sp_m_draw : fw_SP := fun as σ K => ∃ n : Int, as = [(2, 93, 0), (0, 0, n)] ∧ (1 ≤ n ∧ n ≤ 1000) ∧ K (some (0, 0, nt_v (σ 93 54) n)) (ab_ups σ 93 54 (nt_s (σ 93 54)))
def sp_m_member : fw_SP := fun as σ K => ∃ s k : Int, as = [(0, 0, s), (0, 0, k)] ∧ (0 ≤ k ∧ k ≤ 1000) ∧ K (some (0, 0, mb s k)) σ
def sp_m_least : fw_SP := fun as σ K => ∃ x y : Int, as = [(0, 0, x), (0, 0, y)] ∧ (fw_c x = x ∧ fw_c y = y) ∧ K (some (0, 0, mnN x y)) σ
def sp_m_bids : fw_SP := fun as σ K => ∃ (A : ab_SG) (sd p x n : Nat) (s m a b : Int), as = [(2, 93, 0), (0, 0, a), (0, 0, (p : Int)), (0, 0, (x : Int)), (0, 0, b), (0, 0, s)] ∧ (a = (sd : Int) ∧ b = (n : Int)) ∧ sd < 2 ∧ NM σ A ∧ (p : Int) < A 49 13 ∧ σ 118 sd = m ∧ (0 ≤ m ∧ m < 512) ∧ (0 ≤ s ∧ s < 512) ∧ (∀ w : Nat, w < 9 → pr_hs m (w : Int) = true → pr_hs s (w : Int) = true) ∧ (x : Int) < A 49 11 ∧ n ≤ 9 ∧ K (some (0, 0, fw_bo (nt_w A p m x n))) σ
def sp_m_round : fw_SP := fun as σ K => ∃ (A : ab_SG) (p q : Nat) (t : ng_T) (a : Int), as = [(2, 93, 0), (0, 0, (p : Int)), (0, 0, (q : Int)), (0, 0, a)] ∧ a = ((t.2.2.2.1 % 2 : Nat) : Int) ∧ NM σ A ∧ ((p : Int) < A 49 13 ∧ (q : Int) < A 49 13) ∧ 0 < A 49 12 ∧ σ 95 3 = A 49 14 ∧ mn_is σ t ∧ ng_B t ∧ (t.2.1 < 3 ∧ t.2.2.1 < 3) ∧ ∀ σ' : ab_SG, ab_okM nm_R σ σ' → (σ' 93 54 = (ng_1 A p q t).1 ∧ σ' 120 3 = ((ng_1 A p q t).2.2.2.2.1 : Int) ∧ σ' 120 4 = (ng_1 A p q t).2.2.2.2.2 ∧ σ' 120 0 = (t.2.2.2.1 : Int) ∧ σ' 120 1 = (t.2.1 : Int) ∧ σ' 120 2 = (t.2.2.1 : Int)) → K (some (0, 0, ((nr_w A p q (t.2.2.2.1 % 2) t.1 : Nat) : Int))) σ'
def sp_m_nightBy : fw_SP := fun as σ K => ∃ (A : ab_SG) (p q : Nat) (z : Int), as = [(2, 93, 0), (0, 0, (p : Int)), (0, 0, (q : Int)), (0, 0, z)] ∧ NM σ A ∧ ((p : Int) < A 49 13 ∧ (q : Int) < A 49 13) ∧ 0 < A 49 12 ∧ σ 95 3 = A 49 14 ∧ ∀ σ' : ab_SG, ab_okM nm_R σ σ' → mn_is σ' (v_ng A p q z) → ng_B (v_ng A p q z) → (v_ng A p q z).2.2.2.1 ≠ 0 → K (some (0, 0, if ng_win A (p : Int) (q : Int) z = true then 1 else -1)) σ'
def sp_m_isNight : fw_SP := fun as σ K => ∃ (A : ab_SG) (p q : Int), as = [(2, 93, 0), (0, 0, p), (0, 0, q)] ∧ (fw_c p = p ∧ fw_c q = q) ∧ NM σ A ∧ K (some (0, 0, fw_bo (v_nb A p q))) σ
def sp_m_nights : fw_SP := fun as σ K => ∃ (A : ab_SG) (p q n z : Int), as = [(2, 93, 0), (0, 0, p), (0, 0, q), (0, 0, n), (0, 0, z)] ∧ (fw_c p = p ∧ fw_c q = q ∧ fw_c n = n ∧ fw_c z = z) ∧ NM σ A ∧ (0 < A 49 13 → σ 95 3 = A 49 14) ∧ ∀ σ' : ab_SG, ab_okM nm_Z σ σ' → K (some (0, 0, v_nights A p q n z)) σ'
abbrev fk_m_least : List fw_CR := []
abbrev st_m_least : fw_K → fw_KR → fw_K := fw_st vwCl nn_sh nn_kd fw_kv fw_wc (nn_KI20.map (fun x => x.1)) (nn_KJ20.map (fun x => x.1)) (nn_PF20.map (fun x => x.1)) (nn_PS20.map (fun x => x.1)) fk_m_least 0 nn_dt269 2 0
theorem fs_m_least_0 {G : fw_K} {R : fw_KR} (hG : fw_cls st_m_least R G) {x y : Int} {σ : ab_SG} (h : (fw_c y ≤ fw_c x → R (some (0, 0, y)) σ) ∧ (fw_c x < fw_c y → R (some (0, 0, x)) σ)) : G 0 [some (0, 0, x), some (0, 0, y)] [] σ := fw_on hG [] 200 h
abbrev fk_m_draw : List fw_CR := []
abbrev st_m_draw : fw_K → fw_KR → fw_K := fw_st vwCl nn_sh nn_kd fw_kv fw_wc (nn_KI20.map (fun x => x.1)) (nn_KJ20.map (fun x => x.1)) (nn_PF20.map (fun x => x.1)) (nn_PS20.map (fun x => x.1)) fk_m_draw 0 nn_dt336 2 0
theorem fs_m_draw_0 {G : fw_K} {R : fw_KR} (hG : fw_cls st_m_draw R G) {n : Int} {σ : ab_SG} (h : fw_c n ≠ 0 ∧ (R (some (0, 0, fw_op 4 (fw_op 7 (fw_c (((σ 93 54) * 1103515245) + 12345)) 8) n)) (ab_ups σ 93 54 (fw_c (((σ 93 54) * 1103515245) + 12345))))) : G 0 [some (2, 93, 0), some (0, 0, n)] [] σ := fw_on hG [] 200 h
abbrev fk_m_member : List fw_CR := [(216, 2, false, 0, 0, sp_m_has)]
abbrev st_m_member : fw_K → fw_KR → fw_K := fw_st vwCl nn_sh nn_kd fw_kv fw_wc (nn_KI20.map (fun x => x.1)) (nn_KJ20.map (fun x => x.1)) (nn_PF20.map (fun x => x.1)) (nn_PS20.map (fun x => x.1)) fk_m_member 1 nn_dt337 4 0
theorem fs_m_member_0 {G : fw_K} {R : fw_KR} (hG : fw_cls st_m_member R G) {s k : Int} {σ : ab_SG} (h : G 4 [some (0, 0, s), some (0, 0, k), some (0, 0, 0), some (0, 0, 0)] [] σ) : G 0 [some (0, 0, s), some (0, 0, k), none, none] [] σ := fw_on hG [4, 15, 31] 200 h
theorem fs_m_member_4 {G : fw_K} {R : fw_KR} (hG : fw_cls st_m_member R G) {a0 a1 a2 a3 : Int} {σ : ab_SG} (h : (fw_c 9 ≤ fw_c a3 → R (some (0, 0, (-1))) σ) ∧ (fw_c a3 < fw_c 9 → sp_m_has [(0, 0, a0), (0, 0, a3)] σ (fun rv σ2 => G 15 [some (0, 0, a0), some (0, 0, a1), some (0, 0, a2), some (0, 0, a3)] (rv.toList ++ []) σ2))) : G 4 [some (0, 0, a0), some (0, 0, a1), some (0, 0, a2), some (0, 0, a3)] [] σ := fw_on hG [4, 15, 31] 200 h
theorem fs_m_member_15 {G : fw_K} {R : fw_KR} (hG : fw_cls st_m_member R G) {a0 a1 a2 a3 b0 : Int} {σ : ab_SG} (h : (fw_c b0 ≠ 0 → (fw_c a2 ≠ fw_c a1 → G 31 [some (0, 0, a0), some (0, 0, a1), some (0, 0, a2 + 1), some (0, 0, a3)] [] σ) ∧ (fw_c a2 = fw_c a1 → R (some (0, 0, a3)) σ)) ∧ (fw_c b0 = 0 → G 31 [some (0, 0, a0), some (0, 0, a1), some (0, 0, a2), some (0, 0, a3)] [] σ)) : G 15 [some (0, 0, a0), some (0, 0, a1), some (0, 0, a2), some (0, 0, a3)] [(0, 0, b0)] σ := fw_on hG [4, 15, 31] 200 h
theorem fs_m_member_31 {G : fw_K} {R : fw_KR} (hG : fw_cls st_m_member R G) {a0 a1 a2 a3 : Int} {σ : ab_SG} (h : G 4 [some (0, 0, a0), some (0, 0, a1), some (0, 0, a2), some (0, 0, a3 + 1)] [] σ) : G 31 [some (0, 0, a0), some (0, 0, a1), some (0, 0, a2), some (0, 0, a3)] [] σ := fw_on hG [4, 15, 31] 200 h
abbrev fk_m_bids : List fw_CR := [(216, 2, false, 0, 0, sp_m_has), (306, 4, true, 11, 5, sp_m_likes), (322, 1, false, 0, 0, sp_m_bits9)]
abbrev st_m_bids : fw_K → fw_KR → fw_K := fw_st vwCl nn_sh nn_kd fw_kv fw_wc (nn_KI20.map (fun x => x.1)) (nn_KJ20.map (fun x => x.1)) (nn_PF20.map (fun x => x.1)) (nn_PS20.map (fun x => x.1)) fk_m_bids 6 nn_dt338 6 1
theorem fs_m_bids_0 {G : fw_K} {R : fw_KR} (hG : fw_cls st_m_bids R G) {side p x n s : Int} {σ : ab_SG} (h : (fw_c n = 0 → (0 ≤ fw_c 0 ∧ fw_c 0 ≤ 1) ∧ R (some (0, 0, 0)) σ) ∧ (fw_c n ≠ 0 → (0 ≤ fw_c side ∧ fw_c side < ((2 : Nat) : Int)) ∧ (sp_m_has [(0, 0, σ 118 (fw_c side).toNat), (0, 0, x)] σ (fun rv σ2 => G 15 [some (2, 93, 0), some (0, 0, side), some (0, 0, p), some (0, 0, x), some (0, 0, n), some (0, 0, s)] (rv.toList ++ []) σ2)))) : G 0 [some (2, 93, 0), some (0, 0, side), some (0, 0, p), some (0, 0, x), some (0, 0, n), some (0, 0, s)] [] σ := fw_on hG [15, 30, 40] 200 h
theorem fs_m_bids_15 {G : fw_K} {R : fw_KR} (hG : fw_cls st_m_bids R G) {a1 a2 a3 a4 a5 b0 : Int} {σ : ab_SG} (h : (fw_c b0 ≠ 0 → sp_m_likes [(2, 93, 0), (0, 0, a3), (0, 0, a4), (0, 0, 0), (0, 0, a5)] σ (fun rv σ2 => G 30 [some (2, 93, 0), some (0, 0, a1), some (0, 0, a2), some (0, 0, a3), some (0, 0, a4), some (0, 0, a5)] (rv.toList ++ []) σ2)) ∧ (fw_c b0 = 0 → (0 ≤ fw_c 0 ∧ fw_c 0 ≤ 1) ∧ R (some (0, 0, 0)) σ)) : G 15 [some (2, 93, 0), some (0, 0, a1), some (0, 0, a2), some (0, 0, a3), some (0, 0, a4), some (0, 0, a5)] [(0, 0, b0)] σ := fw_on hG [15, 30, 40] 200 h
theorem fs_m_bids_30 {G : fw_K} {R : fw_KR} (hG : fw_cls st_m_bids R G) {a1 a2 b0 : Int} {o3 o4 o5 : Option ab_AV} {σ : ab_SG} (h : (0 ≤ fw_c a1 ∧ fw_c a1 < ((2 : Nat) : Int)) ∧ (sp_m_bits9 [(0, 0, fw_op 8 b0 (σ 118 (fw_c a1).toNat))] σ (fun rv σ2 => G 40 [some (2, 93, 0), some (0, 0, a1), some (0, 0, a2), o3, o4, o5] (rv.toList ++ []) σ2))) : G 30 [some (2, 93, 0), some (0, 0, a1), some (0, 0, a2), o3, o4, o5] [(0, 0, b0)] σ := fw_on hG [15, 30, 40] 200 h
theorem fs_m_bids_40 {G : fw_K} {R : fw_KR} (hG : fw_cls st_m_bids R G) {a2 b0 : Int} {o1 o3 o4 o5 : Option ab_AV} {σ : ab_SG} (h : (0 ≤ fw_c (227 + a2) ∧ fw_c (227 + a2) < ((474 : Nat) : Int)) ∧ ((fw_c (9 - (σ 95 (fw_c (227 + a2)).toNat)) < fw_c (b0 - 1) → (0 ≤ fw_c 0 ∧ fw_c 0 ≤ 1) ∧ R (some (0, 0, 0)) σ) ∧ (fw_c (b0 - 1) ≤ fw_c (9 - (σ 95 (fw_c (227 + a2)).toNat)) → (0 ≤ fw_c 1 ∧ fw_c 1 ≤ 1) ∧ R (some (0, 0, 1)) σ))) : G 40 [some (2, 93, 0), o1, some (0, 0, a2), o3, o4, o5] [(0, 0, b0)] σ := fw_on hG [15, 30, 40] 200 h
abbrev fk_m_round : List fw_CR := [(216, 2, false, 0, 0, sp_m_has), (261, 0, true, 11, 0, sp_m_tunes), (284, 2, true, 11, 0, sp_m_known), (306, 4, true, 11, 5, sp_m_likes), (316, 2, false, 0, 0, sp_m_least), (322, 1, false, 0, 0, sp_m_bits9), (470, 1, true, 11, 0, sp_m_draw), (473, 2, false, 0, 1, sp_m_member), (476, 5, true, 11, 6, sp_m_bids)]
abbrev st_m_round : fw_K → fw_KR → fw_K := fw_st vwCl nn_sh nn_kd fw_kv fw_wc (nn_KI20.map (fun x => x.1)) (nn_KJ20.map (fun x => x.1)) (nn_PF20.map (fun x => x.1)) (nn_PS20.map (fun x => x.1)) fk_m_round 7 nn_dt335 10 0
theorem fs_m_round_0 {G : fw_K} {R : fw_KR} (hG : fw_cls st_m_round R G) {p q first : Int} {σ : ab_SG} (h : (0 ≤ fw_c 1 ∧ fw_c 1 < ((474 : Nat) : Int)) ∧ (sp_m_draw [(2, 93, 0), (0, 0, σ 95 (fw_c 1).toNat)] σ (fun rv σ2 => G 17 [some (2, 93, 0), some (0, 0, p), some (0, 0, q), some (0, 0, first), none, none, none, none, none, none] (rv.toList ++ [(0, 0, 176), (2, 95, 0)]) σ2))) : G 0 [some (2, 93, 0), some (0, 0, p), some (0, 0, q), some (0, 0, first), none, none, none, none, none, none] [] σ := fw_on hG [17, 29, 32, 35, 40, 57, 63, 73, 82, 93, 98, 115, 138, 153, 164, 195, 207, 230, 233, 236, 245, 246, 263] 200 h
theorem fs_m_round_17 {G : fw_K} {R : fw_KR} (hG : fw_cls st_m_round R G) {a1 a2 a3 b0 b1 : Int} {o4 o5 o6 o7 o9 : Option ab_AV} {σ : ab_SG} (h : (0 ≤ fw_c (b1 + b0) ∧ fw_c (b1 + b0) < ((474 : Nat) : Int)) ∧ (sp_m_bits9 [(0, 0, σ 95 (fw_c (b1 + b0)).toNat)] σ (fun rv σ2 => G 29 [some (2, 93, 0), some (0, 0, a1), some (0, 0, a2), some (0, 0, a3), some (0, 0, σ 95 (fw_c (b1 + b0)).toNat), o5, o6, o7, none, o9] (rv.toList ++ [(2, 93, 0), (0, 0, σ 95 (fw_c (b1 + b0)).toNat)]) σ2))) : G 17 [some (2, 93, 0), some (0, 0, a1), some (0, 0, a2), some (0, 0, a3), o4, o5, o6, o7, none, o9] [(0, 0, b0), (0, 0, b1), (2, 95, 0)] σ := fw_on hG [17, 29, 32, 35, 40, 57, 63, 73, 82, 93, 98, 115, 138, 153, 164, 195, 207, 230, 233, 236, 245, 246, 263] 200 h
theorem fs_m_round_29 {G : fw_K} {R : fw_KR} (hG : fw_cls st_m_round R G) {a1 a2 a3 a4 b0 b2 : Int} {o5 o6 o7 o9 : Option ab_AV} {σ : ab_SG} (h : sp_m_draw [(2, 93, 0), (0, 0, b0)] σ (fun rv σ2 => G 32 [some (2, 93, 0), some (0, 0, a1), some (0, 0, a2), some (0, 0, a3), some (0, 0, a4), o5, o6, o7, none, o9] (rv.toList ++ [(0, 0, b2)]) σ2)) : G 29 [some (2, 93, 0), some (0, 0, a1), some (0, 0, a2), some (0, 0, a3), some (0, 0, a4), o5, o6, o7, none, o9] [(0, 0, b0), (2, 93, 0), (0, 0, b2)] σ := fw_on hG [17, 29, 32, 35, 40, 57, 63, 73, 82, 93, 98, 115, 138, 153, 164, 195, 207, 230, 233, 236, 245, 246, 263] 200 h
theorem fs_m_round_32 {G : fw_K} {R : fw_KR} (hG : fw_cls st_m_round R G) {a1 a2 a3 a4 b0 b1 : Int} {o5 o6 o7 o9 : Option ab_AV} {σ : ab_SG} (h : sp_m_member [(0, 0, b1), (0, 0, b0)] σ (fun rv σ2 => G 35 [some (2, 93, 0), some (0, 0, a1), some (0, 0, a2), some (0, 0, a3), some (0, 0, a4), o5, o6, o7, none, o9] (rv.toList ++ []) σ2)) : G 32 [some (2, 93, 0), some (0, 0, a1), some (0, 0, a2), some (0, 0, a3), some (0, 0, a4), o5, o6, o7, none, o9] [(0, 0, b0), (0, 0, b1)] σ := fw_on hG [17, 29, 32, 35, 40, 57, 63, 73, 82, 93, 98, 115, 138, 153, 164, 195, 207, 230, 233, 236, 245, 246, 263] 200 h
theorem fs_m_round_35 {G : fw_K} {R : fw_KR} (hG : fw_cls st_m_round R G) {a1 a2 a3 a4 b0 : Int} {o5 o6 o7 o9 : Option ab_AV} {σ : ab_SG} (h : G 40 [some (2, 93, 0), some (0, 0, a1), some (0, 0, a2), some (0, 0, a3), some (0, 0, a4), some (0, 0, b0), some (0, 0, 0), o7, none, o9] [] σ) : G 35 [some (2, 93, 0), some (0, 0, a1), some (0, 0, a2), some (0, 0, a3), some (0, 0, a4), o5, o6, o7, none, o9] [(0, 0, b0)] σ := fw_on hG [17, 29, 32, 35, 40, 57, 63, 73, 82, 93, 98, 115, 138, 153, 164, 195, 207, 230, 233, 236, 245, 246, 263] 200 h
theorem fs_m_round_40 {G : fw_K} {R : fw_KR} (hG : fw_cls st_m_round R G) {a1 a2 a3 a4 a5 a6 : Int} {o7 o9 : Option ab_AV} {σ : ab_SG} (h : (fw_c 2 ≤ fw_c a6 → (0 ≤ fw_c 3 ∧ fw_c 3 < ((474 : Nat) : Int)) ∧ (G 138 [some (2, 93, 0), some (0, 0, a1), some (0, 0, a2), some (0, 0, a3), some (0, 0, a4), some (0, 0, a5), some (0, 0, σ 95 (fw_c 3).toNat), some (0, 0, a3), none, o9] [] σ)) ∧ (fw_c a6 < fw_c 2 → (0 ≤ fw_c a6 ∧ fw_c a6 < ((2 : Nat) : Int)) ∧ True ∧ (G 57 [some (2, 93, 0), some (0, 0, a1), some (0, 0, a2), some (0, 0, a3), some (0, 0, a4), some (0, 0, a5), some (0, 0, a6), some (0, 0, 0), none, o9] [] (ab_ups σ 118 (fw_c a6).toNat (fw_c 0))))) : G 40 [some (2, 93, 0), some (0, 0, a1), some (0, 0, a2), some (0, 0, a3), some (0, 0, a4), some (0, 0, a5), some (0, 0, a6), o7, none, o9] [] σ := fw_on hG [17, 29, 32, 35, 40, 57, 63, 73, 82, 93, 98, 115, 138, 153, 164, 195, 207, 230, 233, 236, 245, 246, 263] 200 h
theorem fs_m_round_138 {G : fw_K} {R : fw_KR} (hG : fw_cls st_m_round R G) {a1 a2 a4 a5 a6 a7 : Int} {o3 o9 : Option ab_AV} {σ : ab_SG} (h : (fw_c a7 ≠ 0 → G 153 [some (2, 93, 0), some (0, 0, a1), some (0, 0, a2), o3, some (0, 0, a4), some (0, 0, a5), some (0, 0, a6), some (0, 0, a7), none, o9] [(0, 0, a1), (0, 0, 1 - a7), (2, 93, 0)] σ) ∧ (fw_c a7 = 0 → G 153 [some (2, 93, 0), some (0, 0, a1), some (0, 0, a2), o3, some (0, 0, a4), some (0, 0, a5), some (0, 0, a6), some (0, 0, a7), none, o9] [(0, 0, a2), (0, 0, 1 - a7), (2, 93, 0)] σ)) : G 138 [some (2, 93, 0), some (0, 0, a1), some (0, 0, a2), o3, some (0, 0, a4), some (0, 0, a5), some (0, 0, a6), some (0, 0, a7), none, o9] [] σ := fw_on hG [17, 29, 32, 35, 40, 57, 63, 73, 82, 93, 98, 115, 138, 153, 164, 195, 207, 230, 233, 236, 245, 246, 263] 200 h
theorem fs_m_round_57 {G : fw_K} {R : fw_KR} (hG : fw_cls st_m_round R G) {a1 a2 a3 a4 a5 a6 a7 : Int} {o9 : Option ab_AV} {σ : ab_SG} (h : sp_m_tunes [(2, 93, 0)] σ (fun rv σ2 => G 63 [some (2, 93, 0), some (0, 0, a1), some (0, 0, a2), some (0, 0, a3), some (0, 0, a4), some (0, 0, a5), some (0, 0, a6), some (0, 0, a7), none, o9] (rv.toList ++ [(0, 0, a7)]) σ2)) : G 57 [some (2, 93, 0), some (0, 0, a1), some (0, 0, a2), some (0, 0, a3), some (0, 0, a4), some (0, 0, a5), some (0, 0, a6), some (0, 0, a7), none, o9] [] σ := fw_on hG [17, 29, 32, 35, 40, 57, 63, 73, 82, 93, 98, 115, 138, 153, 164, 195, 207, 230, 233, 236, 245, 246, 263] 200 h
theorem fs_m_round_153 {G : fw_K} {R : fw_KR} (hG : fw_cls st_m_round R G) {a1 a2 a4 a5 a6 a7 b0 b1 : Int} {o3 o9 : Option ab_AV} {σ : ab_SG} (h : sp_m_bids [(2, 93, 0), (0, 0, b1), (0, 0, b0), (0, 0, a5), (0, 0, a6 - 1), (0, 0, a4)] σ (fun rv σ2 => G 164 [some (2, 93, 0), some (0, 0, a1), some (0, 0, a2), o3, some (0, 0, a4), some (0, 0, a5), some (0, 0, a6), some (0, 0, a7), none, o9] (rv.toList ++ []) σ2)) : G 153 [some (2, 93, 0), some (0, 0, a1), some (0, 0, a2), o3, some (0, 0, a4), some (0, 0, a5), some (0, 0, a6), some (0, 0, a7), none, o9] [(0, 0, b0), (0, 0, b1), (2, 93, 0)] σ := fw_on hG [17, 29, 32, 35, 40, 57, 63, 73, 82, 93, 98, 115, 138, 153, 164, 195, 207, 230, 233, 236, 245, 246, 263] 200 h
theorem fs_m_round_63 {G : fw_K} {R : fw_KR} (hG : fw_cls st_m_round R G) {a1 a2 a3 a4 a5 a6 a7 b0 b1 : Int} {o9 : Option ab_AV} {σ : ab_SG} (h : (fw_c b0 ≤ fw_c b1 → G 40 [some (2, 93, 0), some (0, 0, a1), some (0, 0, a2), some (0, 0, a3), some (0, 0, a4), some (0, 0, a5), some (0, 0, a6 + 1), some (0, 0, a7), none, o9] [] σ) ∧ (fw_c b1 < fw_c b0 → sp_m_has [(0, 0, a4), (0, 0, a7)] σ (fun rv σ2 => G 73 [some (2, 93, 0), some (0, 0, a1), some (0, 0, a2), some (0, 0, a3), some (0, 0, a4), some (0, 0, a5), some (0, 0, a6), some (0, 0, a7), none, o9] (rv.toList ++ []) σ2))) : G 63 [some (2, 93, 0), some (0, 0, a1), some (0, 0, a2), some (0, 0, a3), some (0, 0, a4), some (0, 0, a5), some (0, 0, a6), some (0, 0, a7), none, o9] [(0, 0, b0), (0, 0, b1)] σ := fw_on hG [17, 29, 32, 35, 40, 57, 63, 73, 82, 93, 98, 115, 138, 153, 164, 195, 207, 230, 233, 236, 245, 246, 263] 200 h
theorem fs_m_round_164 {G : fw_K} {R : fw_KR} (hG : fw_cls st_m_round R G) {a1 a2 a4 a5 a6 a7 b0 : Int} {o3 o9 : Option ab_AV} {σ : ab_SG} (h : (fw_c b0 = 0 → (0 ≤ fw_c 4 ∧ fw_c 4 < ((5 : Nat) : Int)) ∧ (sp_m_least [(0, 0, σ 120 (fw_c 4).toNat), (0, 0, a6)] σ (fun rv σ2 => G 195 [some (2, 93, 0), some (0, 0, a1), some (0, 0, a2), o3, some (0, 0, a4), some (0, 0, a5), some (0, 0, a6), some (0, 0, a7), none, o9] (rv.toList ++ [(0, 0, 4), (2, 120, 0)]) σ2))) ∧ (fw_c b0 ≠ 0 → G 138 [some (2, 93, 0), some (0, 0, a1), some (0, 0, a2), o3, some (0, 0, a4), some (0, 0, a5), some (0, 0, a6 + (-1)), some (0, 0, 1 - a7), none, o9] [] σ)) : G 164 [some (2, 93, 0), some (0, 0, a1), some (0, 0, a2), o3, some (0, 0, a4), some (0, 0, a5), some (0, 0, a6), some (0, 0, a7), none, o9] [(0, 0, b0)] σ := fw_on hG [17, 29, 32, 35, 40, 57, 63, 73, 82, 93, 98, 115, 138, 153, 164, 195, 207, 230, 233, 236, 245, 246, 263] 200 h
theorem fs_m_round_73 {G : fw_K} {R : fw_KR} (hG : fw_cls st_m_round R G) {a1 a2 a3 a4 a5 a6 a7 b0 : Int} {o9 : Option ab_AV} {σ : ab_SG} (h : (fw_c b0 = 0 → G 115 [some (2, 93, 0), some (0, 0, a1), some (0, 0, a2), some (0, 0, a3), some (0, 0, a4), some (0, 0, a5), some (0, 0, a6), some (0, 0, a7), none, o9] [] σ) ∧ (fw_c b0 ≠ 0 → sp_m_draw [(2, 93, 0), (0, 0, 9)] σ (fun rv σ2 => G 82 [some (2, 93, 0), some (0, 0, a1), some (0, 0, a2), some (0, 0, a3), some (0, 0, a4), some (0, 0, a5), some (0, 0, a6), some (0, 0, a7), none, o9] (rv.toList ++ []) σ2))) : G 73 [some (2, 93, 0), some (0, 0, a1), some (0, 0, a2), some (0, 0, a3), some (0, 0, a4), some (0, 0, a5), some (0, 0, a6), some (0, 0, a7), none, o9] [(0, 0, b0)] σ := fw_on hG [17, 29, 32, 35, 40, 57, 63, 73, 82, 93, 98, 115, 138, 153, 164, 195, 207, 230, 233, 236, 245, 246, 263] 200 h
theorem fs_m_round_195 {G : fw_K} {R : fw_KR} (hG : fw_cls st_m_round R G) {a4 a5 a6 a7 b0 b1 : Int} {o1 o2 o3 o9 : Option ab_AV} {σ : ab_SG} (h : (0 ≤ fw_c b1 ∧ fw_c b1 < ((5 : Nat) : Int)) ∧ True ∧ (sp_m_likes [(2, 93, 0), (0, 0, a5), (0, 0, a6), (0, 0, 0), (0, 0, a4)] (ab_ups σ 120 (fw_c b1).toNat (fw_c b0)) (fun rv σ2 => G 207 [some (2, 93, 0), o1, o2, o3, some (0, 0, a4), some (0, 0, a5), some (0, 0, a6), some (0, 0, a7), none, o9] (rv.toList ++ []) σ2))) : G 195 [some (2, 93, 0), o1, o2, o3, some (0, 0, a4), some (0, 0, a5), some (0, 0, a6), some (0, 0, a7), none, o9] [(0, 0, b0), (0, 0, b1), (2, 120, 0)] σ := fw_on hG [17, 29, 32, 35, 40, 57, 63, 73, 82, 93, 98, 115, 138, 153, 164, 195, 207, 230, 233, 236, 245, 246, 263] 200 h
theorem fs_m_round_115 {G : fw_K} {R : fw_KR} (hG : fw_cls st_m_round R G) {a1 a2 a3 a4 a5 a6 a7 : Int} {o9 : Option ab_AV} {σ : ab_SG} (h : G 57 [some (2, 93, 0), some (0, 0, a1), some (0, 0, a2), some (0, 0, a3), some (0, 0, a4), some (0, 0, a5), some (0, 0, a6), some (0, 0, a7 + 1), none, o9] [] σ) : G 115 [some (2, 93, 0), some (0, 0, a1), some (0, 0, a2), some (0, 0, a3), some (0, 0, a4), some (0, 0, a5), some (0, 0, a6), some (0, 0, a7), none, o9] [] σ := fw_on hG [17, 29, 32, 35, 40, 57, 63, 73, 82, 93, 98, 115, 138, 153, 164, 195, 207, 230, 233, 236, 245, 246, 263] 200 h
theorem fs_m_round_82 {G : fw_K} {R : fw_KR} (hG : fw_cls st_m_round R G) {a1 a2 a3 a4 a5 a6 a7 b0 : Int} {o9 : Option ab_AV} {σ : ab_SG} (h : (fw_c a6 ≠ 0 → G 93 [some (2, 93, 0), some (0, 0, a1), some (0, 0, a2), some (0, 0, a3), some (0, 0, a4), some (0, 0, a5), some (0, 0, a6), some (0, 0, a7), none, o9] [(0, 0, a2), (2, 93, 0), (0, 0, b0)] σ) ∧ (fw_c a6 = 0 → G 93 [some (2, 93, 0), some (0, 0, a1), some (0, 0, a2), some (0, 0, a3), some (0, 0, a4), some (0, 0, a5), some (0, 0, a6), some (0, 0, a7), none, o9] [(0, 0, a1), (2, 93, 0), (0, 0, b0)] σ)) : G 82 [some (2, 93, 0), some (0, 0, a1), some (0, 0, a2), some (0, 0, a3), some (0, 0, a4), some (0, 0, a5), some (0, 0, a6), some (0, 0, a7), none, o9] [(0, 0, b0)] σ := fw_on hG [17, 29, 32, 35, 40, 57, 63, 73, 82, 93, 98, 115, 138, 153, 164, 195, 207, 230, 233, 236, 245, 246, 263] 200 h
theorem fs_m_round_207 {G : fw_K} {R : fw_KR} (hG : fw_cls st_m_round R G) {a5 a7 b0 : Int} {o1 o2 o3 o4 o6 o9 : Option ab_AV} {σ : ab_SG} (h : (0 ≤ fw_c a7 ∧ fw_c a7 < ((2 : Nat) : Int)) ∧ ((fw_c (fw_op 8 b0 (σ 118 (fw_c a7).toNat)) = 0 → G 245 [some (2, 93, 0), o1, o2, o3, o4, some (0, 0, a5), o6, some (0, 0, a7), some (0, 0, fw_op 8 b0 (σ 118 (fw_c a7).toNat)), o9] [] σ) ∧ (fw_c (fw_op 8 b0 (σ 118 (fw_c a7).toNat)) ≠ 0 → sp_m_bits9 [(0, 0, fw_op 8 b0 (σ 118 (fw_c a7).toNat))] σ (fun rv σ2 => G 230 [some (2, 93, 0), o1, o2, o3, o4, some (0, 0, a5), o6, some (0, 0, a7), some (0, 0, fw_op 8 b0 (σ 118 (fw_c a7).toNat)), o9] (rv.toList ++ [(2, 93, 0), (0, 0, fw_op 8 b0 (σ 118 (fw_c a7).toNat))]) σ2)))) : G 207 [some (2, 93, 0), o1, o2, o3, o4, some (0, 0, a5), o6, some (0, 0, a7), none, o9] [(0, 0, b0)] σ := fw_on hG [17, 29, 32, 35, 40, 57, 63, 73, 82, 93, 98, 115, 138, 153, 164, 195, 207, 230, 233, 236, 245, 246, 263] 200 h
theorem fs_m_round_93 {G : fw_K} {R : fw_KR} (hG : fw_cls st_m_round R G) {a1 a2 a3 a4 a5 a6 a7 b0 b2 : Int} {o9 : Option ab_AV} {σ : ab_SG} (h : sp_m_known [(2, 93, 0), (0, 0, b0), (0, 0, a7)] σ (fun rv σ2 => G 98 [some (2, 93, 0), some (0, 0, a1), some (0, 0, a2), some (0, 0, a3), some (0, 0, a4), some (0, 0, a5), some (0, 0, a6), some (0, 0, a7), none, o9] (rv.toList ++ [(0, 0, b2)]) σ2)) : G 93 [some (2, 93, 0), some (0, 0, a1), some (0, 0, a2), some (0, 0, a3), some (0, 0, a4), some (0, 0, a5), some (0, 0, a6), some (0, 0, a7), none, o9] [(0, 0, b0), (2, 93, 0), (0, 0, b2)] σ := fw_on hG [17, 29, 32, 35, 40, 57, 63, 73, 82, 93, 98, 115, 138, 153, 164, 195, 207, 230, 233, 236, 245, 246, 263] 200 h
theorem fs_m_round_245 {G : fw_K} {R : fw_KR} (hG : fw_cls st_m_round R G) {a7 a8 : Int} {o1 o2 o3 o4 o5 o6 o9 : Option ab_AV} {σ : ab_SG} (h : G 246 [some (2, 93, 0), o1, o2, o3, o4, o5, o6, some (0, 0, a7), some (0, 0, a8), o9] [(0, 0, 0)] σ) : G 245 [some (2, 93, 0), o1, o2, o3, o4, o5, o6, some (0, 0, a7), some (0, 0, a8), o9] [] σ := fw_on hG [17, 29, 32, 35, 40, 57, 63, 73, 82, 93, 98, 115, 138, 153, 164, 195, 207, 230, 233, 236, 245, 246, 263] 200 h
theorem fs_m_round_230 {G : fw_K} {R : fw_KR} (hG : fw_cls st_m_round R G) {a5 a7 a8 b0 b2 : Int} {o1 o2 o3 o4 o6 o9 : Option ab_AV} {σ : ab_SG} (h : sp_m_draw [(2, 93, 0), (0, 0, b0)] σ (fun rv σ2 => G 233 [some (2, 93, 0), o1, o2, o3, o4, some (0, 0, a5), o6, some (0, 0, a7), some (0, 0, a8), o9] (rv.toList ++ [(0, 0, b2)]) σ2)) : G 230 [some (2, 93, 0), o1, o2, o3, o4, some (0, 0, a5), o6, some (0, 0, a7), some (0, 0, a8), o9] [(0, 0, b0), (2, 93, 0), (0, 0, b2)] σ := fw_on hG [17, 29, 32, 35, 40, 57, 63, 73, 82, 93, 98, 115, 138, 153, 164, 195, 207, 230, 233, 236, 245, 246, 263] 200 h
theorem fs_m_round_98 {G : fw_K} {R : fw_KR} (hG : fw_cls st_m_round R G) {a1 a2 a3 a4 a5 a6 a7 b0 b1 : Int} {o9 : Option ab_AV} {σ : ab_SG} (h : (fw_c b0 ≤ fw_c b1 → G 115 [some (2, 93, 0), some (0, 0, a1), some (0, 0, a2), some (0, 0, a3), some (0, 0, a4), some (0, 0, a5), some (0, 0, a6), some (0, 0, a7), none, o9] [] σ) ∧ (fw_c b1 < fw_c b0 → (0 ≤ fw_c a6 ∧ fw_c a6 < ((2 : Nat) : Int)) ∧ ((0 ≤ fw_c a6 ∧ fw_c a6 < ((2 : Nat) : Int)) ∧ True ∧ (G 115 [some (2, 93, 0), some (0, 0, a1), some (0, 0, a2), some (0, 0, a3), some (0, 0, a4), some (0, 0, a5), some (0, 0, a6), some (0, 0, a7), none, o9] [] (ab_ups σ 118 (fw_c a6).toNat (fw_c (fw_op 9 (σ 118 (fw_c a6).toNat) (fw_op 5 1 a7)))))))) : G 98 [some (2, 93, 0), some (0, 0, a1), some (0, 0, a2), some (0, 0, a3), some (0, 0, a4), some (0, 0, a5), some (0, 0, a6), some (0, 0, a7), none, o9] [(0, 0, b0), (0, 0, b1)] σ := fw_on hG [17, 29, 32, 35, 40, 57, 63, 73, 82, 93, 98, 115, 138, 153, 164, 195, 207, 230, 233, 236, 245, 246, 263] 200 h
theorem fs_m_round_246 {G : fw_K} {R : fw_KR} (hG : fw_cls st_m_round R G) {a7 a8 b0 : Int} {o1 o2 o3 o4 o5 o6 o9 : Option ab_AV} {σ : ab_SG} (h : (fw_c b0 = 0 → G 263 [some (2, 93, 0), o1, o2, o3, o4, o5, o6, some (0, 0, a7), some (0, 0, a8), some (0, 0, b0)] [] σ) ∧ (fw_c b0 ≠ 0 → (0 ≤ fw_c 3 ∧ fw_c 3 < ((5 : Nat) : Int)) ∧ ((0 ≤ fw_c 3 ∧ fw_c 3 < ((5 : Nat) : Int)) ∧ True ∧ (G 263 [some (2, 93, 0), o1, o2, o3, o4, o5, o6, some (0, 0, a7), some (0, 0, a8), some (0, 0, b0)] [] (ab_ups σ 120 (fw_c 3).toNat (fw_c ((σ 120 (fw_c 3).toNat) + 1))))))) : G 246 [some (2, 93, 0), o1, o2, o3, o4, o5, o6, some (0, 0, a7), some (0, 0, a8), o9] [(0, 0, b0)] σ := fw_on hG [17, 29, 32, 35, 40, 57, 63, 73, 82, 93, 98, 115, 138, 153, 164, 195, 207, 230, 233, 236, 245, 246, 263] 200 h
theorem fs_m_round_233 {G : fw_K} {R : fw_KR} (hG : fw_cls st_m_round R G) {a5 a7 a8 b0 b1 : Int} {o1 o2 o3 o4 o6 o9 : Option ab_AV} {σ : ab_SG} (h : sp_m_member [(0, 0, b1), (0, 0, b0)] σ (fun rv σ2 => G 236 [some (2, 93, 0), o1, o2, o3, o4, some (0, 0, a5), o6, some (0, 0, a7), some (0, 0, a8), o9] (rv.toList ++ []) σ2)) : G 233 [some (2, 93, 0), o1, o2, o3, o4, some (0, 0, a5), o6, some (0, 0, a7), some (0, 0, a8), o9] [(0, 0, b0), (0, 0, b1)] σ := fw_on hG [17, 29, 32, 35, 40, 57, 63, 73, 82, 93, 98, 115, 138, 153, 164, 195, 207, 230, 233, 236, 245, 246, 263] 200 h
theorem fs_m_round_263 {G : fw_K} {R : fw_KR} (hG : fw_cls st_m_round R G) {a7 a8 a9 : Int} {o1 o2 o3 o4 o5 o6 : Option ab_AV} {σ : ab_SG} (h : (fw_c a9 = 0 → R (some (0, 0, 1 - a7)) σ) ∧ (fw_c a9 ≠ 0 → R (some (0, 0, a7)) σ)) : G 263 [some (2, 93, 0), o1, o2, o3, o4, o5, o6, some (0, 0, a7), some (0, 0, a8), some (0, 0, a9)] [] σ := fw_on hG [17, 29, 32, 35, 40, 57, 63, 73, 82, 93, 98, 115, 138, 153, 164, 195, 207, 230, 233, 236, 245, 246, 263] 200 h
theorem fs_m_round_236 {G : fw_K} {R : fw_KR} (hG : fw_cls st_m_round R G) {a5 a7 a8 b0 : Int} {o1 o2 o3 o4 o6 o9 : Option ab_AV} {σ : ab_SG} (h : (fw_c b0 ≠ fw_c a5 → G 245 [some (2, 93, 0), o1, o2, o3, o4, some (0, 0, a5), o6, some (0, 0, a7), some (0, 0, a8), o9] [] σ) ∧ (fw_c b0 = fw_c a5 → G 246 [some (2, 93, 0), o1, o2, o3, o4, some (0, 0, a5), o6, some (0, 0, a7), some (0, 0, a8), o9] [(0, 0, 1)] σ)) : G 236 [some (2, 93, 0), o1, o2, o3, o4, some (0, 0, a5), o6, some (0, 0, a7), some (0, 0, a8), o9] [(0, 0, b0)] σ := fw_on hG [17, 29, 32, 35, 40, 57, 63, 73, 82, 93, 98, 115, 138, 153, 164, 195, 207, 230, 233, 236, 245, 246, 263] 200 h
abbrev fk_m_nightBy : List fw_CR := [(480, 3, true, 11, 7, sp_m_round)]
abbrev st_m_nightBy : fw_K → fw_KR → fw_K := fw_st vwCl nn_sh nn_kd fw_kv fw_wc (nn_KI20.map (fun x => x.1)) (nn_KJ20.map (fun x => x.1)) (nn_PF20.map (fun x => x.1)) (nn_PS20.map (fun x => x.1)) fk_m_nightBy 8 nn_dt334 5 0
theorem fs_m_nightBy_0 {G : fw_K} {R : fw_KR} (hG : fw_cls st_m_nightBy R G) {p q z : Int} {σ : ab_SG} (h : G 8 [some (2, 93, 0), some (0, 0, p), some (0, 0, q), some (0, 0, z), some (0, 0, 0)] [] (ab_ups σ 93 54 (fw_c z))) : G 0 [some (2, 93, 0), some (0, 0, p), some (0, 0, q), some (0, 0, z), none] [] σ := fw_on hG [8, 39, 72, 97] 200 h
theorem fs_m_nightBy_8 {G : fw_K} {R : fw_KR} (hG : fw_cls st_m_nightBy R G) {a1 a2 a3 a4 : Int} {σ : ab_SG} (h : (fw_c 4 ≤ fw_c a4 → (0 ≤ fw_c 4 ∧ fw_c 4 < ((5 : Nat) : Int)) ∧ True ∧ (G 39 [some (2, 93, 0), some (0, 0, a1), some (0, 0, a2), some (0, 0, a3), some (0, 0, 0)] [] (ab_ups σ 120 (fw_c 4).toNat (fw_c 99)))) ∧ (fw_c a4 < fw_c 4 → (0 ≤ fw_c a4 ∧ fw_c a4 < ((5 : Nat) : Int)) ∧ True ∧ (G 8 [some (2, 93, 0), some (0, 0, a1), some (0, 0, a2), some (0, 0, a3), some (0, 0, a4 + 1)] [] (ab_ups σ 120 (fw_c a4).toNat (fw_c 0))))) : G 8 [some (2, 93, 0), some (0, 0, a1), some (0, 0, a2), some (0, 0, a3), some (0, 0, a4)] [] σ := fw_on hG [8, 39, 72, 97] 200 h
theorem fs_m_nightBy_39 {G : fw_K} {R : fw_KR} (hG : fw_cls st_m_nightBy R G) {a1 a2 a3 a4 : Int} {σ : ab_SG} (h : (0 ≤ fw_c 1 ∧ fw_c 1 < ((5 : Nat) : Int)) ∧ ((fw_c 3 ≤ fw_c (σ 120 (fw_c 1).toNat) → G 97 [some (2, 93, 0), some (0, 0, a1), some (0, 0, a2), some (0, 0, a3), some (0, 0, a4)] [] σ) ∧ (fw_c (σ 120 (fw_c 1).toNat) < fw_c 3 → (0 ≤ fw_c 2 ∧ fw_c 2 < ((5 : Nat) : Int)) ∧ ((fw_c 3 ≤ fw_c (σ 120 (fw_c 2).toNat) → G 97 [some (2, 93, 0), some (0, 0, a1), some (0, 0, a2), some (0, 0, a3), some (0, 0, a4)] [] σ) ∧ (fw_c (σ 120 (fw_c 2).toNat) < fw_c 3 → sp_m_round [(2, 93, 0), (0, 0, a1), (0, 0, a2), (0, 0, a4)] σ (fun rv σ2 => G 72 [some (2, 93, 0), some (0, 0, a1), some (0, 0, a2), some (0, 0, a3), some (0, 0, a4)] (rv.toList ++ [(0, 0, 1), (2, 120, 0)]) σ2)))))) : G 39 [some (2, 93, 0), some (0, 0, a1), some (0, 0, a2), some (0, 0, a3), some (0, 0, a4)] [] σ := fw_on hG [8, 39, 72, 97] 200 h
theorem fs_m_nightBy_97 {G : fw_K} {R : fw_KR} (hG : fw_cls st_m_nightBy R G) {a3 : Int} {o1 o2 o4 : Option ab_AV} {σ : ab_SG} (h : (0 ≤ fw_c 1 ∧ fw_c 1 < ((5 : Nat) : Int)) ∧ ((fw_c (σ 120 (fw_c 1).toNat) ≠ fw_c 3 → R (some (0, 0, (-1))) σ) ∧ (fw_c (σ 120 (fw_c 1).toNat) = fw_c 3 → R (some (0, 0, 1)) σ))) : G 97 [some (2, 93, 0), o1, o2, some (0, 0, a3), o4] [] σ := fw_on hG [8, 39, 72, 97] 200 h
theorem fs_m_nightBy_72 {G : fw_K} {R : fw_KR} (hG : fw_cls st_m_nightBy R G) {a1 a2 a3 a4 b0 b1 : Int} {σ : ab_SG} (h : (0 ≤ fw_c (b1 + b0) ∧ fw_c (b1 + b0) < ((5 : Nat) : Int)) ∧ ((0 ≤ fw_c (b1 + b0) ∧ fw_c (b1 + b0) < ((5 : Nat) : Int)) ∧ True ∧ ((0 ≤ fw_c 0 ∧ fw_c 0 < ((5 : Nat) : Int)) ∧ ((0 ≤ fw_c 0 ∧ fw_c 0 < ((5 : Nat) : Int)) ∧ True ∧ (G 39 [some (2, 93, 0), some (0, 0, a1), some (0, 0, a2), some (0, 0, a3), some (0, 0, 1 - a4)] [] (ab_ups (ab_ups σ 120 (fw_c (b1 + b0)).toNat (fw_c ((σ 120 (fw_c (b1 + b0)).toNat) + 1))) 120 (fw_c 0).toNat (fw_c (((ab_ups σ 120 (fw_c (b1 + b0)).toNat (fw_c ((σ 120 (fw_c (b1 + b0)).toNat) + 1))) 120 (fw_c 0).toNat) + 1)))))))) : G 72 [some (2, 93, 0), some (0, 0, a1), some (0, 0, a2), some (0, 0, a3), some (0, 0, a4)] [(0, 0, b0), (0, 0, b1), (2, 120, 0)] σ := fw_on hG [8, 39, 72, 97] 200 h
abbrev fk_m_isNight : List fw_CR := [(281, 1, true, 11, 0, sp_m_isPerson)]
abbrev st_m_isNight : fw_K → fw_KR → fw_K := fw_st vwCl nn_sh nn_kd fw_kv fw_wc (nn_KI20.map (fun x => x.1)) (nn_KJ20.map (fun x => x.1)) (nn_PF20.map (fun x => x.1)) (nn_PS20.map (fun x => x.1)) fk_m_isNight 1 nn_dt333 3 1
theorem fs_m_isNight_0 {G : fw_K} {R : fw_KR} (hG : fw_cls st_m_isNight R G) {p q : Int} {σ : ab_SG} (h : sp_m_isPerson [(2, 93, 0), (0, 0, p)] σ (fun rv σ2 => G 5 [some (2, 93, 0), some (0, 0, p), some (0, 0, q)] (rv.toList ++ []) σ2)) : G 0 [some (2, 93, 0), some (0, 0, p), some (0, 0, q)] [] σ := fw_on hG [5, 13] 200 h
theorem fs_m_isNight_5 {G : fw_K} {R : fw_KR} (hG : fw_cls st_m_isNight R G) {a1 a2 b0 : Int} {σ : ab_SG} (h : (fw_c b0 = 0 → (0 ≤ fw_c 0 ∧ fw_c 0 ≤ 1) ∧ R (some (0, 0, 0)) σ) ∧ (fw_c b0 ≠ 0 → sp_m_isPerson [(2, 93, 0), (0, 0, a2)] σ (fun rv σ2 => G 13 [some (2, 93, 0), some (0, 0, a1), some (0, 0, a2)] (rv.toList ++ []) σ2))) : G 5 [some (2, 93, 0), some (0, 0, a1), some (0, 0, a2)] [(0, 0, b0)] σ := fw_on hG [5, 13] 200 h
theorem fs_m_isNight_13 {G : fw_K} {R : fw_KR} (hG : fw_cls st_m_isNight R G) {a1 a2 b0 : Int} {σ : ab_SG} (h : (fw_c b0 = 0 → (0 ≤ fw_c 0 ∧ fw_c 0 ≤ 1) ∧ R (some (0, 0, 0)) σ) ∧ (fw_c b0 ≠ 0 → (fw_c a1 = fw_c a2 → (0 ≤ fw_c 0 ∧ fw_c 0 ≤ 1) ∧ R (some (0, 0, 0)) σ) ∧ (fw_c a1 ≠ fw_c a2 → (0 ≤ fw_c 1 ∧ fw_c 1 < ((474 : Nat) : Int)) ∧ ((fw_c (σ 95 (fw_c 1).toNat) ≤ 0 → (0 ≤ fw_c 0 ∧ fw_c 0 ≤ 1) ∧ R (some (0, 0, 0)) σ) ∧ (0 < fw_c (σ 95 (fw_c 1).toNat) → (0 ≤ fw_c 1 ∧ fw_c 1 ≤ 1) ∧ R (some (0, 0, 1)) σ))))) : G 13 [some (2, 93, 0), some (0, 0, a1), some (0, 0, a2)] [(0, 0, b0)] σ := fw_on hG [5, 13] 200 h
abbrev fk_m_nights : List fw_CR := [(171, 3, false, 0, 0, sp_m_isIn), (483, 2, true, 11, 1, sp_m_isNight), (486, 3, true, 11, 8, sp_m_nightBy)]
abbrev st_m_nights : fw_K → fw_KR → fw_K := fw_st vwCl nn_sh nn_kd fw_kv fw_wc (nn_KI20.map (fun x => x.1)) (nn_KJ20.map (fun x => x.1)) (nn_PF20.map (fun x => x.1)) (nn_PS20.map (fun x => x.1)) fk_m_nights 9 nn_dt340 7 0
theorem fs_m_nights_0 {G : fw_K} {R : fw_KR} (hG : fw_cls st_m_nights R G) {p q n z : Int} {σ : ab_SG} (h : sp_m_isNight [(2, 93, 0), (0, 0, p), (0, 0, q)] (ab_ups σ 93 0 (fw_c 0)) (fun rv σ2 => G 11 [some (2, 93, 0), some (0, 0, p), some (0, 0, q), some (0, 0, n), some (0, 0, z), none, none] (rv.toList ++ []) σ2)) : G 0 [some (2, 93, 0), some (0, 0, p), some (0, 0, q), some (0, 0, n), some (0, 0, z), none, none] [] σ := fw_on hG [11, 21, 32, 49, 56] 200 h
theorem fs_m_nights_11 {G : fw_K} {R : fw_KR} (hG : fw_cls st_m_nights R G) {a1 a2 a3 a4 b0 : Int} {o5 o6 : Option ab_AV} {σ : ab_SG} (h : (fw_c b0 = 0 → R (some (0, 0, (-1))) σ) ∧ (fw_c b0 ≠ 0 → sp_m_isIn [(0, 0, a3), (0, 0, 1), (0, 0, 100)] σ (fun rv σ2 => G 21 [some (2, 93, 0), some (0, 0, a1), some (0, 0, a2), some (0, 0, a3), some (0, 0, a4), o5, o6] (rv.toList ++ []) σ2))) : G 11 [some (2, 93, 0), some (0, 0, a1), some (0, 0, a2), some (0, 0, a3), some (0, 0, a4), o5, o6] [(0, 0, b0)] σ := fw_on hG [11, 21, 32, 49, 56] 200 h
theorem fs_m_nights_21 {G : fw_K} {R : fw_KR} (hG : fw_cls st_m_nights R G) {a1 a2 a3 a4 b0 : Int} {o5 o6 : Option ab_AV} {σ : ab_SG} (h : (fw_c b0 ≠ 0 → G 32 [some (2, 93, 0), some (0, 0, a1), some (0, 0, a2), some (0, 0, a3), some (0, 0, a4), some (0, 0, 0), some (0, 0, 0)] [] σ) ∧ (fw_c b0 = 0 → R (some (0, 0, (-1))) σ)) : G 21 [some (2, 93, 0), some (0, 0, a1), some (0, 0, a2), some (0, 0, a3), some (0, 0, a4), o5, o6] [(0, 0, b0)] σ := fw_on hG [11, 21, 32, 49, 56] 200 h
theorem fs_m_nights_32 {G : fw_K} {R : fw_KR} (hG : fw_cls st_m_nights R G) {a1 a2 a3 a4 a5 a6 : Int} {σ : ab_SG} (h : (fw_c a3 ≤ fw_c a6 → R (some (0, 0, a5)) σ) ∧ (fw_c a6 < fw_c a3 → sp_m_nightBy [(2, 93, 0), (0, 0, a1), (0, 0, a2), (0, 0, a4 + a6)] σ (fun rv σ2 => G 49 [some (2, 93, 0), some (0, 0, a1), some (0, 0, a2), some (0, 0, a3), some (0, 0, a4), some (0, 0, a5), some (0, 0, a6)] (rv.toList ++ []) σ2))) : G 32 [some (2, 93, 0), some (0, 0, a1), some (0, 0, a2), some (0, 0, a3), some (0, 0, a4), some (0, 0, a5), some (0, 0, a6)] [] σ := fw_on hG [11, 21, 32, 49, 56] 200 h
theorem fs_m_nights_49 {G : fw_K} {R : fw_KR} (hG : fw_cls st_m_nights R G) {a1 a2 a3 a4 a5 a6 b0 : Int} {σ : ab_SG} (h : (fw_c b0 ≠ fw_c 1 → G 56 [some (2, 93, 0), some (0, 0, a1), some (0, 0, a2), some (0, 0, a3), some (0, 0, a4), some (0, 0, a5), some (0, 0, a6)] [] σ) ∧ (fw_c b0 = fw_c 1 → G 56 [some (2, 93, 0), some (0, 0, a1), some (0, 0, a2), some (0, 0, a3), some (0, 0, a4), some (0, 0, a5 + 1), some (0, 0, a6)] [] σ)) : G 49 [some (2, 93, 0), some (0, 0, a1), some (0, 0, a2), some (0, 0, a3), some (0, 0, a4), some (0, 0, a5), some (0, 0, a6)] [(0, 0, b0)] σ := fw_on hG [11, 21, 32, 49, 56] 200 h
theorem fs_m_nights_56 {G : fw_K} {R : fw_KR} (hG : fw_cls st_m_nights R G) {a1 a2 a3 a4 a5 a6 : Int} {σ : ab_SG} (h : G 32 [some (2, 93, 0), some (0, 0, a1), some (0, 0, a2), some (0, 0, a3), some (0, 0, a4), some (0, 0, a5), some (0, 0, a6 + 1)] [] σ) : G 56 [some (2, 93, 0), some (0, 0, a1), some (0, 0, a2), some (0, 0, a3), some (0, 0, a4), some (0, 0, a5), some (0, 0, a6)] [] σ := fw_on hG [11, 21, 32, 49, 56] 200 h
section
variable {l : Launch} {cy : Nat → ClassId} {ad wr cr : Nat → Nat} {D : va_G}

theorem fm_m_draw (hinj : nn_inj ad) : fw_H l cy ad wr cr D 336 0 sp_m_draw := fw_mk hinj (⟨"NameNotesModel", "draw", "(I)I"⟩, prog_14_method_130_code, 2, (Option.some Jvm.ClassFile.FieldType.int), 1, true, 0) rfl rfl nn_KI20_ok nn_KJ20_ok nn_PF20_ok nn_PS20_ok (by decide +kernel) rfl rfl (fun _ h => absurd h List.not_mem_nil) (fun as σ K h => by
  obtain ⟨n, rfl, hn, h⟩ := h
  have cn : fw_c n = n := fw_c_id (by omega) (by omega)
  exact ⟨rfl, fun G hG => fs_m_draw_0 hG ⟨by rw [cn]; omega, h⟩⟩)
theorem fm_m_member (hinj : nn_inj ad) : fw_H l cy ad wr cr D 337 1 sp_m_member := fw_mk hinj (⟨"NameNotesModel", "member", "(II)I"⟩, prog_14_method_131_code, 4, (Option.some Jvm.ClassFile.FieldType.int), 2, false, 0) rfl rfl nn_KI20_ok nn_KJ20_ok nn_PF20_ok nn_PS20_ok (by decide +kernel) rfl rfl (List.forall_mem_cons.mpr ⟨fw_row nn_PM20_ok (x := 216) (k := 0) (mn := 230) (np := 2) (ob := false) (ci := 0) (⟨"NameNotesModel", "has", "(II)Z"⟩, prog_14_method_9_code, 2, (Option.some Jvm.ClassFile.FieldType.boolean), 2, false, 1) rfl (by decide +kernel) rfl rfl (by decide) (fun q => by cases q) (fm_m_has hinj), (fun _ h => absurd h List.not_mem_nil)⟩) (fun as σ K h => by
  obtain ⟨s, k, rfl, hk, h⟩ := h
  have ck : fw_c k = k := fw_s (by omega) (by omega)
  have c9 : fw_c 9 = 9 := fw_s (by decide) (by decide)
  refine ⟨rfl, fun G hG => fs_m_member_0 hG ?_⟩
  have loop : ∀ (f x : Nat) (a : Int), x + f = 9 → (0 ≤ a ∧ a ≤ (x : Int)) → mb_f s k f x a = mb s k → G 4 [some (0, 0, s), some (0, 0, k), some (0, 0, a), some (0, 0, (x : Int))] [] σ := by
    intro f
    induction f with
    | zero =>
      intro x a hx ha e
      have ex : x = 9 := by omega
      subst ex
      refine fs_m_member_4 hG ⟨fun _ => ?_, fun z => absurd z (by rw [c9, show fw_c ((9 : Nat) : Int) = 9 from c9]; decide)⟩
      rw [← e] at h
      exact h
    | succ f ih =>
      intro x a hx ha e
      have cx : fw_c (x : Int) = (x : Int) := fw_s (by omega) (by omega)
      have ca : fw_c a = a := fw_s (by omega) (by omega)
      rw [mb_s] at e
      refine fs_m_member_4 hG ⟨fun z => absurd z (by rw [c9, cx]; omega), fun _ => ⟨s, _, rfl, fs_m_member_15 hG ⟨fun z => ?_, fun z => ?_⟩⟩⟩
      · have c : pr_hs s (x : Int) = true := fw_bo_ne z
        rw [if_pos c] at e
        rw [ca, ck]
        refine ⟨fun y => ?_, fun y => ?_⟩
        · rw [if_neg y] at e
          have g := ih (x + 1) (a + 1) (by omega) (by omega) e
          exact fs_m_member_31 hG g
        · rw [if_pos y] at e
          rw [← e] at h
          exact h
      · have c : ¬ pr_hs s (x : Int) = true := fw_bo_eq z
        rw [if_neg c] at e
        have g := ih (x + 1) a (by omega) (by omega) e
        exact fs_m_member_31 hG g
  exact loop 9 0 0 rfl (by decide) rfl)
theorem fm_m_least (hinj : nn_inj ad) : fw_H l cy ad wr cr D 269 0 sp_m_least := fw_mk hinj (⟨"NameNotesModel", "least", "(II)I"⟩, prog_14_method_11_code, 2, (Option.some Jvm.ClassFile.FieldType.int), 2, false, 0) rfl rfl nn_KI20_ok nn_KJ20_ok nn_PF20_ok nn_PS20_ok (by decide +kernel) rfl rfl (fun _ h => absurd h List.not_mem_nil) (fun as σ K h => by
  obtain ⟨x, y, rfl, ⟨ex, ey⟩, h⟩ := h
  unfold mnN at h
  refine ⟨rfl, fun G hG => fs_m_least_0 hG ?_⟩
  rw [ex, ey]
  refine ⟨fun q => ?_, fun q => ?_⟩
  · by_cases c : y < x
    · rw [if_pos c] at h
      exact h
    · rw [if_neg c, show x = y by omega] at h
      exact h
  · rw [if_neg (by omega)] at h
    exact h)
theorem fm_m_bids (hinj : nn_inj ad) : fw_H l cy ad wr cr D 338 6 sp_m_bids := fw_mk hinj (⟨"NameNotesModel", "bids", "(IIIII)Z"⟩, prog_14_method_132_code, 6, (Option.some Jvm.ClassFile.FieldType.boolean), 5, true, 1) rfl rfl nn_KI20_ok nn_KJ20_ok nn_PF20_ok nn_PS20_ok (by decide +kernel) rfl rfl (List.forall_mem_cons.mpr ⟨fw_row nn_PM20_ok (x := 216) (k := 0) (mn := 230) (np := 2) (ob := false) (ci := 0) (⟨"NameNotesModel", "has", "(II)Z"⟩, prog_14_method_9_code, 2, (Option.some Jvm.ClassFile.FieldType.boolean), 2, false, 1) rfl (by decide +kernel) rfl rfl (by decide) (fun q => by cases q) (fm_m_has hinj), (List.forall_mem_cons.mpr ⟨fw_row nn_PM20_ok (x := 306) (k := 0) (mn := 256) (np := 4) (ob := true) (ci := 11) (⟨"NameNotesModel", "likes", "(IIII)I"⟩, prog_14_method_60_code, 7, (Option.some Jvm.ClassFile.FieldType.int), 4, true, 0) rfl (by decide +kernel) rfl rfl (by decide) (fun _ => ⟨_, _, rfl⟩) (fm_m_likes hinj), (List.forall_mem_cons.mpr ⟨fw_row nn_PM20_ok (x := 322) (k := 0) (mn := 274) (np := 1) (ob := false) (ci := 0) (⟨"NameNotesModel", "bits", "(I)I"⟩, prog_14_method_10_code, 3, (Option.some Jvm.ClassFile.FieldType.int), 1, false, 0) rfl (by decide +kernel) rfl rfl (by decide) (fun q => by cases q) (fm_m_bits9 hinj), (fun _ h => absurd h List.not_mem_nil)⟩)⟩)⟩) (fun as σ K h => by
  obtain ⟨A, sd, p, x, n, s, m, a, b, rfl, ⟨rfl, rfl⟩, hsd, hN, hp, h118, hm, hs, hsub, hx, hn, h⟩ := h
  have nn := N_n hN.1
  have cs : fw_c (sd : Int) = (sd : Int) := fw_s (by omega) (by omega)
  have cn : fw_c (n : Int) = (n : Int) := fw_s (by omega) (by omega)
  have no : ¬ nt_w A p m x n → (0 ≤ fw_c 0 ∧ fw_c 0 ≤ 1) ∧ K (some (0, 0, 0)) σ := fun z => ⟨fw_01, by rw [fw_bo_f z] at h; exact h⟩
  refine ⟨rfl, fun G hG => fs_m_bids_0 hG ?_⟩
  rw [cn, cs, Int.toNat_natCast, h118]
  refine ⟨fun z => no (fun w => by have := w.1; omega), fun z => ⟨by omega, m, _, rfl, fs_m_bids_15 hG ⟨fun y => ?_, fun y => no (fun w => fw_bo_eq y w.2.1)⟩⟩⟩
  have hx2 : pr_hs m (x : Int) = true := fw_bo_ne y
  refine ⟨A, x, (n : Int), 0, s, rfl, hN, hx, ⟨by omega, by omega⟩, by decide, fs_m_bids_30 hG ?_⟩
  rw [cs, Int.toNat_natCast, h118]
  have e := nt_lk A hN.1 (x : Int) (n : Int) hs hm hsub
  have lb := v_lk_b A (x : Int) (n : Int) 0 m (A 49 11).toNat (by omega)
  have k2 := oz_cnt_le (oz_P (v_lk A (x : Int) (n : Int) 0 m (A 49 11).toNat)) 9
  have db := hN.2.1.2.2.2.1 p (by omega)
  have cp : fw_c (227 + (p : Int)) = ((227 + p : Nat) : Int) := by
    rw [show 227 + (p : Int) = ((227 + p : Nat) : Int) by omega]
    exact fw_s (by omega) (by omega)
  have e56 : σ 95 (227 + p) = A 56 p := by
    have g := hN.2.2.2.2.2.2.2.2.2.1 p hp
    rw [mlN_j (by omega)] at g
    exact g
  refine ⟨by omega, _, rfl, by rw [show ((0 : Nat) : Int) = 0 from rfl, e]; exact lb, fs_m_bids_40 hG ?_⟩
  rw [cp, Int.toNat_natCast, e56, show ((0 : Nat) : Int) = 0 from rfl, e, fw_s (x := 9 - A 56 p) (by omega) (by omega), fw_s (x := ((oz_cnt (oz_P (v_lk A (x : Int) (n : Int) 0 m (A 49 11).toNat)) 9 : Nat) : Int) - 1) (by omega) (by omega)]
  refine ⟨by omega, fun w => no (fun u => by have := u.2.2; omega), fun w => ⟨fw_11, ?_⟩⟩
  rw [fw_bo_t ⟨by omega, hx2, by omega⟩] at h
  exact h)
theorem fm_m_round (hinj : nn_inj ad) : fw_H l cy ad wr cr D 335 7 sp_m_round := fw_mk hinj (⟨"NameNotesModel", "round", "(III)I"⟩, prog_14_method_133_code, 10, (Option.some Jvm.ClassFile.FieldType.int), 3, true, 0) rfl rfl nn_KI20_ok nn_KJ20_ok nn_PF20_ok nn_PS20_ok (by decide +kernel) rfl rfl (List.forall_mem_cons.mpr ⟨fw_row nn_PM20_ok (x := 216) (k := 0) (mn := 230) (np := 2) (ob := false) (ci := 0) (⟨"NameNotesModel", "has", "(II)Z"⟩, prog_14_method_9_code, 2, (Option.some Jvm.ClassFile.FieldType.boolean), 2, false, 1) rfl (by decide +kernel) rfl rfl (by decide) (fun q => by cases q) (fm_m_has hinj), (List.forall_mem_cons.mpr ⟨fw_row nn_PM20_ok (x := 261) (k := 0) (mn := 240) (np := 0) (ob := true) (ci := 11) (⟨"NameNotesModel", "tunes", "()I"⟩, prog_14_method_41_code, 1, (Option.some Jvm.ClassFile.FieldType.int), 0, true, 0) rfl (by decide +kernel) rfl rfl (by decide) (fun _ => ⟨_, _, rfl⟩) (fm_m_tunes hinj), (List.forall_mem_cons.mpr ⟨fw_row nn_PM20_ok (x := 284) (k := 0) (mn := 250) (np := 2) (ob := true) (ci := 11) (⟨"NameNotesModel", "known", "(II)I"⟩, prog_14_method_54_code, 3, (Option.some Jvm.ClassFile.FieldType.int), 2, true, 0) rfl (by decide +kernel) rfl rfl (by decide) (fun _ => ⟨_, _, rfl⟩) (fm_m_known hinj), (List.forall_mem_cons.mpr ⟨fw_row nn_PM20_ok (x := 306) (k := 0) (mn := 256) (np := 4) (ob := true) (ci := 11) (⟨"NameNotesModel", "likes", "(IIII)I"⟩, prog_14_method_60_code, 7, (Option.some Jvm.ClassFile.FieldType.int), 4, true, 0) rfl (by decide +kernel) rfl rfl (by decide) (fun _ => ⟨_, _, rfl⟩) (fm_m_likes hinj), (List.forall_mem_cons.mpr ⟨fw_row nn_PM20_ok (x := 316) (k := 0) (mn := 269) (np := 2) (ob := false) (ci := 0) (⟨"NameNotesModel", "least", "(II)I"⟩, prog_14_method_11_code, 2, (Option.some Jvm.ClassFile.FieldType.int), 2, false, 0) rfl (by decide +kernel) rfl rfl (by decide) (fun q => by cases q) (fm_m_least hinj), (List.forall_mem_cons.mpr ⟨fw_row nn_PM20_ok (x := 322) (k := 0) (mn := 274) (np := 1) (ob := false) (ci := 0) (⟨"NameNotesModel", "bits", "(I)I"⟩, prog_14_method_10_code, 3, (Option.some Jvm.ClassFile.FieldType.int), 1, false, 0) rfl (by decide +kernel) rfl rfl (by decide) (fun q => by cases q) (fm_m_bits9 hinj), (List.forall_mem_cons.mpr ⟨fw_row nn_PM20_ok (x := 470) (k := 0) (mn := 336) (np := 1) (ob := true) (ci := 11) (⟨"NameNotesModel", "draw", "(I)I"⟩, prog_14_method_130_code, 2, (Option.some Jvm.ClassFile.FieldType.int), 1, true, 0) rfl (by decide +kernel) rfl rfl (by decide) (fun _ => ⟨_, _, rfl⟩) (fm_m_draw hinj), (List.forall_mem_cons.mpr ⟨fw_row nn_PM20_ok (x := 473) (k := 0) (mn := 337) (np := 2) (ob := false) (ci := 0) (⟨"NameNotesModel", "member", "(II)I"⟩, prog_14_method_131_code, 4, (Option.some Jvm.ClassFile.FieldType.int), 2, false, 0) rfl (by decide +kernel) rfl rfl (by decide) (fun q => by cases q) (fm_m_member hinj), (List.forall_mem_cons.mpr ⟨fw_row nn_PM20_ok (x := 476) (k := 0) (mn := 338) (np := 5) (ob := true) (ci := 11) (⟨"NameNotesModel", "bids", "(IIIII)Z"⟩, prog_14_method_132_code, 6, (Option.some Jvm.ClassFile.FieldType.boolean), 5, true, 1) rfl (by decide +kernel) rfl rfl (by decide) (fun _ => ⟨_, _, rfl⟩) (fm_m_bids hinj), (fun _ h => absurd h List.not_mem_nil)⟩)⟩)⟩)⟩)⟩)⟩)⟩)⟩)⟩) (fun as σ K h => by
  obtain ⟨A, p, q, t, a, rfl, rfl, hN, ⟨hp, hq⟩, hcl, h95, hI, hB, h3, h⟩ := h
  have nn := N_n hN.1
  have fb := hN.2.1.2.2.2.2
  have ok := nr_ok hN.1 hN.2.1 hcl t.1
  have v1 := nt_v_in (z := t.1) (n := A 49 12) (by omega) (by omega)
  obtain ⟨i1, i2, i3, i4, i5, i6, i7⟩ := hI
  obtain ⟨b1, b2, b3, b4, b5, b6⟩ := hB
  have hfi : t.2.2.2.1 % 2 < 2 := Nat.mod_lt _ (by decide)
  unfold ng_1 at h
  generalize t.2.2.2.1 % 2 = fi at h hfi ⊢
  have bi := nr_b_in hN.2.1 (p := p) (q := q) hfi t.1
  have t1 : (fw_c 1).toNat = 1 := by rw [fw_c1]; rfl
  have c3 : fw_c 3 = 3 := fw_s (by decide) (by decide)
  have c4 : fw_c 4 = 4 := fw_s (by decide) (by decide)
  have c2 : fw_c 2 = 2 := fw_s (by decide) (by decide)
  have t3 : (fw_c 3).toNat = 3 := by rw [c3]; rfl
  have t4 : (fw_c 4).toNat = 4 := by rw [c4]; rfl
  have T1 : ∀ {σ : ab_SG} {k j a b : Nat} {v : Int}, (a ≠ k ∨ b ≠ j) → (ab_ups σ k j v) a b = σ a b := fun hh => ab_ups_ne (fun z => hh.elim (fun y => y z.1) (fun y => y z.2))
  have NMt : ∀ τ : ab_SG, ab_okM nm_R σ τ → NM τ A := fun τ M => oz_NMM M (by decide +kernel) hN
  refine ⟨rfl, fun G hG => ?_⟩
  -- whose the point is
  have fin : ∀ (τ : ab_SG) (g : Nat) (o1 o2 o3 o4 o5 o6 : Option ab_AV) (a8 : Int) (o9 : Option ab_AV), nr_g A p q fi t.1 = g → ab_okM nm_R σ τ → τ 93 54 = nr_z A p q fi t.1 → τ 120 3 = (t.2.2.2.2.1 : Int) → τ 120 4 = mnN t.2.2.2.2.2 ((nr_b A p q fi t.1).1 : Int) → (τ 120 0 = (t.2.2.2.1 : Int) ∧ τ 120 1 = (t.2.1 : Int) ∧ τ 120 2 = (t.2.2.1 : Int)) → G 246 [some (2, 93, 0), o1, o2, o3, o4, o5, o6, some (0, 0, ((nr_b A p q fi t.1).2 : Int)), some (0, 0, a8), o9] [(0, 0, (g : Int))] τ := by
    intro τ g o1 o2 o3 o4 o5 o6 a8 o9 eg M e1 e3 e4 e5
    have k1 : fw_c ((1 : Nat) : Int) = 1 := fw_c1
    have k0 : fw_c ((0 : Nat) : Int) = 0 := fw_c0
    by_cases hg : nr_G A p q fi t.1
    · have f1 : nr_g A p q fi t.1 = 1 := if_pos hg
      have ew : nr_w A p q fi t.1 = (nr_b A p q fi t.1).2 := if_pos hg
      have eg1 : g = 1 := eg.symm.trans f1
      subst eg1
      refine fs_m_round_246 hG ⟨fun y => absurd y (by rw [k1]; decide), fun _ => ⟨by rw [c3]; decide, by rw [c3]; decide, trivial, fs_m_round_263 hG ⟨fun y => absurd y (by rw [k1]; decide), fun _ => ?_⟩⟩⟩
      rw [t3, e3, fw_s (x := (t.2.2.2.2.1 : Int) + 1) (by omega) (by omega), ← ew]
      refine h _ (fw_okM_upa M (by decide)) ⟨?_, ?_, ?_, ?_, ?_, ?_⟩
      · rw [T1 (by decide)]
        exact e1
      · rw [ab_ups_eq, f1]
        rfl
      · rw [T1 (by decide)]
        exact e4
      · rw [T1 (by decide)]
        exact e5.1
      · rw [T1 (by decide)]
        exact e5.2.1
      · rw [T1 (by decide)]
        exact e5.2.2
    · have f1 : nr_g A p q fi t.1 = 0 := if_neg hg
      have ew : nr_w A p q fi t.1 = 1 - (nr_b A p q fi t.1).2 := if_neg hg
      have eg1 : g = 0 := eg.symm.trans f1
      subst eg1
      refine fs_m_round_246 hG ⟨fun _ => fs_m_round_263 hG ⟨fun _ => ?_, fun y => absurd k0 y⟩, fun y => absurd k0 y⟩
      rw [show 1 - ((nr_b A p q fi t.1).2 : Int) = ((nr_w A p q fi t.1 : Nat) : Int) by rw [ew]; omega]
      exact h τ M ⟨e1, by rw [f1]; exact e3, e4, e5.1, e5.2.1, e5.2.2⟩
  -- one of both, what she knows
  have inner : ∀ (sd P : Nat) (z0 : Int) (τ0 : ab_SG) (o7 o9 : Option ab_AV), ((sd = 0 ∧ P = p) ∨ (sd = 1 ∧ P = q)) → ab_okM nm_B σ τ0 → τ0 93 54 = z0 →
      (∀ (τ : ab_SG) (a7 : Int), ab_okM nm_B τ0 τ → τ 93 54 = (nt_k A P (nr_s A t.1) z0 9).1 → τ 118 sd = (nt_k A P (nr_s A t.1) z0 9).2 → (∀ j : Nat, j ≠ sd → τ 118 j = τ0 118 j) → G 40 [some (2, 93, 0), some (0, 0, (p : Int)), some (0, 0, (q : Int)), some (0, 0, (fi : Int)), some (0, 0, nr_s A t.1), some (0, 0, (nr_x A t.1 : Int)), some (0, 0, (sd : Int) + 1), some (0, 0, a7), none, o9] [] τ) →
      G 40 [some (2, 93, 0), some (0, 0, (p : Int)), some (0, 0, (q : Int)), some (0, 0, (fi : Int)), some (0, 0, nr_s A t.1), some (0, 0, (nr_x A t.1 : Int)), some (0, 0, (sd : Int)), o7, none, o9] [] τ0 := by
    intro sd P z0 τ0 o7 o9 hsd M0 e0 kk
    have sd2 : sd < 2 := by omega
    have hP : P < 5 := by omega
    have cs : fw_c (sd : Int) = (sd : Int) := fw_s (by omega) (by omega)
    obtain ⟨T, eT⟩ := Int.eq_ofNat_of_zero_le nn.1.1
    have hT : T ≤ 9 := by omega
    have up : ∀ τ : ab_SG, ab_okM nm_B τ0 τ → ab_okM nm_R σ τ := fun τ M => od_up (on_trans M0 M) (by decide)
    have loop : ∀ (f y : Nat) (τ : ab_SG), y + f = T → ab_okM nm_B τ0 τ → τ 93 54 = (nt_k A P (nr_s A t.1) z0 y).1 → τ 118 sd = (nt_k A P (nr_s A t.1) z0 y).2 → (∀ j : Nat, j ≠ sd → τ 118 j = τ0 118 j) → G 57 [some (2, 93, 0), some (0, 0, (p : Int)), some (0, 0, (q : Int)), some (0, 0, (fi : Int)), some (0, 0, nr_s A t.1), some (0, 0, (nr_x A t.1 : Int)), some (0, 0, (sd : Int)), some (0, 0, (y : Int)), none, o9] [] τ := by
      intro f
      induction f with
      | zero =>
        intro y τ hy M e1 e2 e3
        have ey : y = T := by omega
        have k9 := nt_k_T A P (nr_s A t.1) z0 (T := T) (fun w hw hs => by have := ok.2.1 w hw hs; omega) (9 - T) (by omega)
        rw [show T + (9 - T) = 9 by omega] at k9
        rw [ey, ← k9] at e1 e2
        refine fs_m_round_57 hG ⟨rfl, fs_m_round_63 hG ⟨fun _ => kk τ _ M e1 e2 e3, fun z => absurd z ?_⟩⟩
        rw [(NM_n (NMt τ (up τ M))).1, eT, ey]
        exact Int.lt_irrefl _
      | succ f ih =>
        intro y τ hy M e1 e2 e3
        have cy9 : fw_c (y : Int) = (y : Int) := fw_s (by omega) (by omega)
        have cT : fw_c (T : Int) = (T : Int) := fw_s (by omega) (by omega)
        have kb := nt_k_b A P (nr_s A t.1) z0 y (by omega)
        refine fs_m_round_57 hG ⟨rfl, fs_m_round_63 hG ⟨fun z => absurd z ?_, fun _ => ⟨nr_s A t.1, _, rfl, fs_m_round_73 hG ⟨fun z => ?_, fun z => ?_⟩⟩⟩⟩
        · rw [(NM_n (NMt τ (up τ M))).1, eT, cy9, cT]
          omega
        · have c : ¬ pr_hs (nr_s A t.1) (y : Int) = true := fw_bo_eq z
          have en : nt_k A P (nr_s A t.1) z0 (y + 1) = nt_k A P (nr_s A t.1) z0 y := by rw [nt_ks, if_neg c]
          have g := ih (y + 1) τ (by omega) M (by rw [en]; exact e1) (by rw [en]; exact e2) e3
          exact fs_m_round_115 hG g
        · have c : pr_hs (nr_s A t.1) (y : Int) = true := fw_bo_ne z
          have en : nt_k A P (nr_s A t.1) z0 (y + 1) = (nt_s (nt_k A P (nr_s A t.1) z0 y).1, if nt_v (nt_k A P (nr_s A t.1) z0 y).1 9 < A 55 (9 * P + y) then fw_op 9 (nt_k A P (nr_s A t.1) z0 y).2 (fw_op 5 1 (y : Int)) else (nt_k A P (nr_s A t.1) z0 y).2) := by rw [nt_ks, if_pos c]
          refine ⟨9, rfl, ⟨by decide, by decide⟩, ?_⟩
          have v := nt_v_in (z := τ 93 54) (n := 9) (by decide) (by decide)
          have M2 : ab_okM nm_B τ0 (ab_ups τ 93 54 (nt_s (τ 93 54))) := fw_okM_ups M (by decide)
          have f1 : (ab_ups τ 93 54 (nt_s (τ 93 54))) 93 54 = nt_s (nt_k A P (nr_s A t.1) z0 y).1 := by rw [ab_ups_eq, e1]
          have f2 : (ab_ups τ 93 54 (nt_s (τ 93 54))) 118 sd = (nt_k A P (nr_s A t.1) z0 y).2 := (T1 (by omega)).trans e2
          have f3 : ∀ j : Nat, j ≠ sd → (ab_ups τ 93 54 (nt_s (τ 93 54))) 118 j = τ0 118 j := fun j hj => (T1 (by omega)).trans (e3 j hj)
          generalize ab_ups τ 93 54 (nt_s (τ 93 54)) = τ2 at M2 f1 f2 f3 ⊢
          have kn := on_kn (NMt τ2 (up τ2 M2)) (j := 9 * P + y) (by omega)
          have k55 := hN.2.1.2.2.1 (9 * P + y) (by omega)
          have go : G 93 [some (2, 93, 0), some (0, 0, (p : Int)), some (0, 0, (q : Int)), some (0, 0, (fi : Int)), some (0, 0, nr_s A t.1), some (0, 0, (nr_x A t.1 : Int)), some (0, 0, (sd : Int)), some (0, 0, (y : Int)), none, o9] [(0, 0, (P : Int)), (2, 93, 0), (0, 0, nt_v (τ 93 54) 9)] τ2 := by
            refine fs_m_round_93 hG ⟨P, y, rfl, hP, by omega, ?_⟩
            rw [show 182 + 9 * P + y = 182 + (9 * P + y) from Nat.add_assoc _ _ _, kn]
            refine fs_m_round_98 hG ?_
            rw [fw_s (x := A 55 (9 * P + y)) (by omega) (by omega), fw_s (x := nt_v (τ 93 54) 9) (by omega) (by omega), e1, cs, Int.toNat_natCast, f2]
            refine ⟨fun w => ?_, fun w => ⟨by omega, by omega, trivial, ?_⟩⟩
            · rw [if_neg (by omega)] at en
              have g := ih (y + 1) τ2 (by omega) M2 (by rw [en]; exact f1) (by rw [en]; exact f2) f3
              exact fs_m_round_115 hG g
            · rw [if_pos w] at en
              have ob := hs_ob kb.1 kb.2 (y := y) (by omega)
              rw [fw_s (x := fw_op 9 (nt_k A P (nr_s A t.1) z0 y).2 (fw_op 5 1 (y : Int))) (by omega) (by omega)]
              have g := ih (y + 1) (ab_ups τ2 118 sd (fw_op 9 (nt_k A P (nr_s A t.1) z0 y).2 (fw_op 5 1 (y : Int)))) (by omega) (fw_okM_upa M2 (by decide)) (by rw [en, T1 (Or.inl (by decide))]; exact f1) (by rw [en, ab_ups_eq]) (fun j hj => by rw [T1 (by omega)]; exact f3 j hj)
              exact fs_m_round_115 hG g
          rcases hsd with ⟨rfl, rfl⟩ | ⟨rfl, rfl⟩
          · exact fs_m_round_82 hG ⟨fun w => absurd fw_c0 w, fun _ => go⟩
          · exact fs_m_round_82 hG ⟨fun _ => go, fun w => absurd w (by rw [show fw_c ((1 : Nat) : Int) = 1 from fw_c1]; decide)⟩
    refine fs_m_round_40 hG ⟨fun z => absurd z (by rw [c2, cs]; omega), fun _ => ⟨by rw [cs]; omega, trivial, ?_⟩⟩
    rw [cs, Int.toNat_natCast, fw_c0]
    have g := loop T 0 (ab_ups τ0 118 sd 0) (Nat.zero_add T) (fw_okM_upa (fw_okM_refl _ _) (by decide)) ((T1 (Or.inl (by decide))).trans e0) ab_ups_eq (fun j hj => T1 (by omega))
    exact g
  refine fs_m_round_0 hG ?_
  rw [t1, (NM_n hN).2.1]
  refine ⟨by rw [fw_c1]; decide, _, rfl, ⟨by omega, by omega⟩, fs_m_round_17 hG ?_⟩
  rw [i1]
  have M1 : ab_okM nm_B σ (ab_ups σ 93 54 (nt_s t.1)) := fw_okM_ups (fw_okM_refl _ _) (by decide)
  have e1 : (ab_ups σ 93 54 (nt_s t.1)) 93 54 = nt_s t.1 := ab_ups_eq
  generalize ab_ups σ 93 54 (nt_s t.1) = σ1 at M1 e1 ⊢
  obtain ⟨k, ek⟩ := Int.eq_ofNat_of_zero_le v1.1
  have es : A 54 k = nr_s A t.1 := by
    unfold nr_s
    rw [ek, Int.toNat_natCast]
  have ck : fw_c (176 + nt_v t.1 (A 49 12)) = ((176 + k : Nat) : Int) := by
    rw [ek, show 176 + (k : Int) = ((176 + k : Nat) : Int) by omega]
    exact fw_s (by omega) (by omega)
  rw [ck, Int.toNat_natCast, NM_cl (NMt σ1 (od_up M1 (by decide))) (c := k) (by omega), es]
  refine ⟨by omega, nr_s A t.1, rfl, ⟨by omega, ok.1.2⟩, fs_m_round_29 hG ⟨_, rfl, ⟨ok.2.2.1.1, by have := ok.2.2.1.2; unfold nr_n at this; omega⟩, ?_⟩⟩
  rw [e1]
  have v2 := nt_v_in (z := nt_s t.1) (n := nr_n (nr_s A t.1)) ok.2.2.1.1 (by have := ok.2.2.1.2; omega)
  have M2 : ab_okM nm_B σ (ab_ups σ1 93 54 (nt_s (nt_s t.1))) := fw_okM_ups M1 (by decide)
  have e2 : (ab_ups σ1 93 54 (nt_s (nt_s t.1))) 93 54 = nt_s (nt_s t.1) := ab_ups_eq
  generalize ab_ups σ1 93 54 (nt_s (nt_s t.1)) = σ2 at M2 e2 ⊢
  refine fs_m_round_32 hG ⟨nr_s A t.1, nt_v (nt_s t.1) (nr_n (nr_s A t.1)), rfl, ⟨v2.1, by have := ok.2.2.1.2; omega⟩, ?_⟩
  rw [ok.2.2.2.2.1]
  refine fs_m_round_35 hG (inner 0 p (nt_s (nt_s t.1)) σ2 _ _ (Or.inl ⟨rfl, rfl⟩) M2 e2 (fun σ3 a7 M3 s3 f3 _ => inner 1 q _ σ3 _ _ (Or.inr ⟨rfl, rfl⟩) (on_trans M2 M3) s3 (fun σ4 a8 M4 s4 f4 g4 => ?_)))
  have M4B : ab_okM nm_B σ σ4 := on_trans (on_trans M2 M3) M4
  have M4 : ab_okM nm_R σ σ4 := od_up M4B (by decide)
  have z4 : σ4 93 54 = (nr_1 A p q t.1).1 := s4
  have m4 : ∀ s : Nat, s < 2 → σ4 118 s = nr_M A p q t.1 s := by
    intro s hs
    rcases (show s = 0 ∨ s = 1 by omega) with rfl | rfl
    · exact (g4 0 (by decide)).trans f3
    · exact f4
  have N4 := NMt σ4 M4
  have k120 : ∀ j : Nat, σ4 120 j = σ 120 j := fun j => (mk_row M4B (by decide) j)
  have P5 : ∀ s : Nat, (nr_P p q s : Int) < A 49 13 := by
    intro s
    unfold nr_P
    split
    · exact hp
    · exact hq
  have named : ∀ (o3 o9 : Option ab_AV), (0 ≤ fw_c 4 ∧ fw_c 4 < ((5 : Nat) : Int)) ∧ sp_m_least [(0, 0, σ4 120 (fw_c 4).toNat), (0, 0, ((nr_b A p q fi t.1).1 : Int))] σ4 (fun rv σ2 => G 195 [some (2, 93, 0), some (0, 0, (p : Int)), some (0, 0, (q : Int)), o3, some (0, 0, nr_s A t.1), some (0, 0, (nr_x A t.1 : Int)), some (0, 0, ((nr_b A p q fi t.1).1 : Int)), some (0, 0, ((nr_b A p q fi t.1).2 : Int)), none, o9] (rv.toList ++ [(0, 0, 4), (2, 120, 0)]) σ2) := by
    intro o3 o9
    have cs : fw_c ((nr_b A p q fi t.1).2 : Int) = ((nr_b A p q fi t.1).2 : Int) := fw_s (by omega) (by omega)
    have cn : fw_c ((nr_b A p q fi t.1).1 : Int) = ((nr_b A p q fi t.1).1 : Int) := fw_s (by omega) (by omega)
    have mb5 := mnN_b (b := ((nr_b A p q fi t.1).1 : Int)) b5 (by omega)
    have l4 : fw_c (if t.2.2.2.1 = 0 then 99 else t.2.2.2.2.2) = (if t.2.2.2.1 = 0 then 99 else t.2.2.2.2.2) ∧ mnN (if t.2.2.2.1 = 0 then 99 else t.2.2.2.2.2) ((nr_b A p q fi t.1).1 : Int) = mnN t.2.2.2.2.2 ((nr_b A p q fi t.1).1 : Int) := by
      by_cases c : t.2.2.2.1 = 0
      · rw [if_pos c, i7 c]
        refine ⟨fw_s (by decide) (by decide), ?_⟩
        unfold mnN
        rw [if_pos (by omega)]
        split <;> omega
      · rw [if_neg c]
        exact ⟨fw_s (by omega) (by omega), rfl⟩
    refine ⟨by rw [c4]; decide, ?_⟩
    rw [t4, k120 4, i6]
    refine ⟨_, _, rfl, ⟨l4.1, cn⟩, fs_m_round_195 hG ?_⟩
    rw [t4, l4.2, fw_s (x := mnN t.2.2.2.2.2 ((nr_b A p q fi t.1).1 : Int)) (by omega) (by omega)]
    have M5 : ab_okM nm_R σ (ab_ups σ4 120 4 (mnN t.2.2.2.2.2 ((nr_b A p q fi t.1).1 : Int))) := fw_okM_upa M4 (by decide)
    have f4 : (ab_ups σ4 120 4 (mnN t.2.2.2.2.2 ((nr_b A p q fi t.1).1 : Int))) 120 4 = mnN t.2.2.2.2.2 ((nr_b A p q fi t.1).1 : Int) := ab_ups_eq
    have f3 : (ab_ups σ4 120 4 (mnN t.2.2.2.2.2 ((nr_b A p q fi t.1).1 : Int))) 120 3 = (t.2.2.2.2.1 : Int) := (T1 (by decide)).trans ((k120 3).trans i5)
    have f0 : (ab_ups σ4 120 4 (mnN t.2.2.2.2.2 ((nr_b A p q fi t.1).1 : Int))) 120 0 = (t.2.2.2.1 : Int) ∧ (ab_ups σ4 120 4 (mnN t.2.2.2.2.2 ((nr_b A p q fi t.1).1 : Int))) 120 1 = (t.2.1 : Int) ∧ (ab_ups σ4 120 4 (mnN t.2.2.2.2.2 ((nr_b A p q fi t.1).1 : Int))) 120 2 = (t.2.2.1 : Int) := ⟨(T1 (by decide)).trans ((k120 0).trans i4), (T1 (by decide)).trans ((k120 1).trans i2), (T1 (by decide)).trans ((k120 2).trans i3)⟩
    have z5 : (ab_ups σ4 120 4 (mnN t.2.2.2.2.2 ((nr_b A p q fi t.1).1 : Int))) 93 54 = (nr_1 A p q t.1).1 := (T1 (by decide)).trans z4
    have m5 : (ab_ups σ4 120 4 (mnN t.2.2.2.2.2 ((nr_b A p q fi t.1).1 : Int))) 118 (nr_b A p q fi t.1).2 = nr_M A p q t.1 (nr_b A p q fi t.1).2 := (T1 (Or.inl (by decide))).trans (m4 _ bi.2)
    generalize ab_ups σ4 120 4 (mnN t.2.2.2.2.2 ((nr_b A p q fi t.1).1 : Int)) = σ5 at M5 f4 f3 f0 z5 m5 ⊢
    refine ⟨by rw [c4]; decide, trivial, A, nr_x A t.1, _, 0, nr_s A t.1, rfl, NMt σ5 M5, ok.2.2.2.2.2, ⟨by omega, by omega⟩, by decide, fs_m_round_207 hG ?_⟩
    have mB := nr_M_b A p q t.1 (nr_b A p q fi t.1).2
    have el : fw_op 8 (v_lk A (nr_x A t.1 : Int) ((nr_b A p q fi t.1).1 : Int) ((0 : Nat) : Int) (nr_s A t.1) (A 49 11).toNat) (nr_M A p q t.1 (nr_b A p q fi t.1).2) = nr_l A p q fi t.1 := nt_lk A hN.1 _ _ ⟨by omega, ok.1.2⟩ mB.1 mB.2
    have lb : 0 ≤ nr_l A p q fi t.1 ∧ nr_l A p q fi t.1 < 512 := v_lk_b A _ _ 0 _ (A 49 11).toNat (by omega)
    have cl : fw_c (nr_l A p q fi t.1) = nr_l A p q fi t.1 := fw_s (by omega) (by omega)
    rw [cs, Int.toNat_natCast, m5, el, cl]
    refine ⟨by omega, fun y => ?_, fun y => ?_⟩
    · have hz : nr_z A p q fi t.1 = (nr_1 A p q t.1).1 := if_pos y
      have hg : nr_g A p q fi t.1 = 0 := if_neg (fun w => w.1 y)
      exact fs_m_round_245 hG (fin σ5 0 _ _ _ _ _ _ _ _ hg M5 (z5.trans hz.symm) f3 f4 f0)
    · have hz : nr_z A p q fi t.1 = nt_s (nr_1 A p q t.1).1 := if_neg y
      have k1 := oz_cnt_pos (s := nr_l A p q fi t.1) (by omega) lb.2
      have k2 := oz_cnt_le (oz_P (nr_l A p q fi t.1)) 9
      have w2 := nt_v_in (z := (nr_1 A p q t.1).1) (n := nr_n (nr_l A p q fi t.1)) (by unfold nr_n; omega) (by unfold nr_n; omega)
      obtain ⟨w, w1, w3, -⟩ := mb_in (s := nr_l A p q fi t.1) w2.1 w2.2
      refine ⟨_, rfl, lb, fs_m_round_230 hG ⟨_, rfl, ⟨by omega, by omega⟩, ?_⟩⟩
      rw [z5]
      have M6 : ab_okM nm_R σ (ab_ups σ5 93 54 (nt_s (nr_1 A p q t.1).1)) := fw_okM_ups M5 (by decide)
      have z6 : (ab_ups σ5 93 54 (nt_s (nr_1 A p q t.1).1)) 93 54 = nr_z A p q fi t.1 := by rw [ab_ups_eq, hz]
      have g4 : (ab_ups σ5 93 54 (nt_s (nr_1 A p q t.1).1)) 120 4 = mnN t.2.2.2.2.2 ((nr_b A p q fi t.1).1 : Int) := (T1 (by decide)).trans f4
      have g3 : (ab_ups σ5 93 54 (nt_s (nr_1 A p q t.1).1)) 120 3 = (t.2.2.2.2.1 : Int) := (T1 (by decide)).trans f3
      have g0 : (ab_ups σ5 93 54 (nt_s (nr_1 A p q t.1).1)) 120 0 = (t.2.2.2.1 : Int) ∧ (ab_ups σ5 93 54 (nt_s (nr_1 A p q t.1).1)) 120 1 = (t.2.1 : Int) ∧ (ab_ups σ5 93 54 (nt_s (nr_1 A p q t.1).1)) 120 2 = (t.2.2.1 : Int) := ⟨(T1 (by decide)).trans f0.1, (T1 (by decide)).trans f0.2.1, (T1 (by decide)).trans f0.2.2⟩
      generalize ab_ups σ5 93 54 (nt_s (nr_1 A p q t.1).1) = σ6 at M6 z6 g4 g3 g0 ⊢
      refine fs_m_round_233 hG ⟨nr_l A p q fi t.1, nt_v (nr_1 A p q t.1).1 (nr_n (nr_l A p q fi t.1)), rfl, ⟨w2.1, by have := w2.2; have e9 : nr_n (nr_l A p q fi t.1) = ((oz_cnt (oz_P (nr_l A p q fi t.1)) 9 : Nat) : Int) := rfl; omega⟩, fs_m_round_236 hG ?_⟩
      rw [w3, fw_s (x := (w : Int)) (by omega) (by omega), fw_s (x := (nr_x A t.1 : Int)) (by have := ok.2.2.2.1; omega) (by have := ok.2.2.2.1; omega)]
      refine ⟨fun u => ?_, fun u => ?_⟩
      · have hg : nr_g A p q fi t.1 = 0 := if_neg (fun x => by have := x.2; rw [w3] at this; exact u this)
        exact fs_m_round_245 hG (fin σ6 0 _ _ _ _ _ _ _ _ hg M6 z6 g3 g4 g0)
      · have hg : nr_g A p q fi t.1 = 1 := if_pos ⟨y, by rw [w3]; exact u⟩
        exact fin σ6 1 _ _ _ _ _ _ _ _ hg M6 z6 g3 g4 g0
  obtain ⟨F, eF⟩ := Int.eq_ofNat_of_zero_le (show 0 ≤ A 49 14 by omega)
  have eb : nr_b A p q fi t.1 = nt_b A (nr_P p q) (nr_M A p q t.1) (nr_x A t.1) F fi := by
    unfold nr_b
    rw [eF, Int.toNat_natCast]
  have loop : ∀ (n s : Nat) (o3 o9 : Option ab_AV), 1 ≤ n → n ≤ 9 → s < 2 → nt_b A (nr_P p q) (nr_M A p q t.1) (nr_x A t.1) n s = nr_b A p q fi t.1 → G 138 [some (2, 93, 0), some (0, 0, (p : Int)), some (0, 0, (q : Int)), o3, some (0, 0, nr_s A t.1), some (0, 0, (nr_x A t.1 : Int)), some (0, 0, (n : Int)), some (0, 0, (s : Int)), none, o9] [] σ4 := by
    intro n
    induction n with
    | zero => intro s o3 o9 h1 _ _ _; omega
    | succ n ih =>
      intro s o3 o9 _ hn hs e
      have cs : fw_c (s : Int) = (s : Int) := fw_s (by omega) (by omega)
      have mB := nr_M_b A p q t.1 (1 - s)
      have go : G 153 [some (2, 93, 0), some (0, 0, (p : Int)), some (0, 0, (q : Int)), o3, some (0, 0, nr_s A t.1), some (0, 0, (nr_x A t.1 : Int)), some (0, 0, ((n + 1 : Nat) : Int)), some (0, 0, (s : Int)), none, o9] [(0, 0, (nr_P p q (1 - s) : Int)), (0, 0, 1 - (s : Int)), (2, 93, 0)] σ4 := by
        refine fs_m_round_153 hG ⟨A, 1 - s, nr_P p q (1 - s), nr_x A t.1, n, nr_s A t.1, nr_M A p q t.1 (1 - s), _, _, rfl, ⟨by omega, by omega⟩, by omega, N4, P5 _, m4 (1 - s) (by omega), mB.1, ⟨by omega, ok.1.2⟩, mB.2, ok.2.2.2.2.2, by omega, fs_m_round_164 hG ⟨fun y => ?_, fun y => ?_⟩⟩
        · rw [nt_bs, if_neg (fw_bo_eq y)] at e
          have g := named o3 o9
          rw [← e] at g
          exact g
        · have w := fw_bo_ne y
          rw [nt_bs, if_pos w] at e
          have g := ih (1 - s) o3 o9 w.1 (by omega) (by omega) e
          rw [show ((1 - s : Nat) : Int) = 1 - (s : Int) by omega] at g
          rw [show ((n + 1 : Nat) : Int) + (-1) = (n : Int) by omega]
          exact g
      refine fs_m_round_138 hG ?_
      rw [cs]
      refine ⟨fun y => ?_, fun y => ?_⟩
      · rw [show nr_P p q (1 - s) = p from if_pos (by omega)] at go
        exact go
      · rw [show nr_P p q (1 - s) = q from if_neg (by omega)] at go
        exact go
  refine fs_m_round_40 hG ⟨fun _ => ⟨by rw [c3]; decide, ?_⟩, fun z => absurd z (by rw [c2, show fw_c (((1 : Nat) : Int) + 1) = 2 from c2]; decide)⟩
  rw [t3, show σ4 95 3 = A 49 14 from (mk_row M4B (by decide) 3).trans h95, eF]
  exact loop F fi _ _ (by omega) (by omega) hfi eb.symm)
theorem fm_m_nightBy (hinj : nn_inj ad) : fw_H l cy ad wr cr D 334 8 sp_m_nightBy := fw_mk hinj (⟨"NameNotesModel", "nightBy", "(III)I"⟩, prog_14_method_134_code, 5, (Option.some Jvm.ClassFile.FieldType.int), 3, true, 0) rfl rfl nn_KI20_ok nn_KJ20_ok nn_PF20_ok nn_PS20_ok (by decide +kernel) rfl rfl (List.forall_mem_cons.mpr ⟨fw_row nn_PM20_ok (x := 480) (k := 0) (mn := 335) (np := 3) (ob := true) (ci := 11) (⟨"NameNotesModel", "round", "(III)I"⟩, prog_14_method_133_code, 10, (Option.some Jvm.ClassFile.FieldType.int), 3, true, 0) rfl (by decide +kernel) rfl rfl (by decide) (fun _ => ⟨_, _, rfl⟩) (fm_m_round hinj), (fun _ h => absurd h List.not_mem_nil)⟩) (fun as σ K h => by
  obtain ⟨A, p, q, z, rfl, hN, ⟨hp, hq⟩, hcl, h95, h⟩ := h
  have nn := N_n hN.1
  have c4 : fw_c 4 = 4 := fw_s (by decide) (by decide)
  have c3 : fw_c 3 = 3 := fw_s (by decide) (by decide)
  have c2 : fw_c 2 = 2 := fw_s (by decide) (by decide)
  have t0 : (fw_c 0).toNat = 0 := by rw [fw_c0]; rfl
  have t1 : (fw_c 1).toNat = 1 := by rw [fw_c1]; rfl
  have t2 : (fw_c 2).toNat = 2 := by rw [c2]; rfl
  have t4 : (fw_c 4).toNat = 4 := by rw [c4]; rfl
  have r0 : 0 ≤ fw_c 0 ∧ fw_c 0 < ((5 : Nat) : Int) := by rw [fw_c0]; decide
  have r1 : 0 ≤ fw_c 1 ∧ fw_c 1 < ((5 : Nat) : Int) := by rw [fw_c1]; decide
  have r2 : 0 ≤ fw_c 2 ∧ fw_c 2 < ((5 : Nat) : Int) := by rw [c2]; decide
  have T1 : ∀ {σ : ab_SG} {k j a b : Nat} {v : Int}, (a ≠ k ∨ b ≠ j) → (ab_ups σ k j v) a b = σ a b := fun hh => ab_ups_ne (fun z => hh.elim (fun y => y z.1) (fun y => y z.2))
  refine ⟨rfl, fun G hG => fs_m_nightBy_0 hG ?_⟩
  -- the rounds
  have main : ∀ (f : Nat) (τ : ab_SG) (t : ng_T), t.2.2.2.1 + f = 5 → ab_okM nm_R σ τ → mn_is τ t → ng_B t → ng A p q f t = v_ng A p q z → G 39 [some (2, 93, 0), some (0, 0, (p : Int)), some (0, 0, (q : Int)), some (0, 0, z), some (0, 0, ((t.2.2.2.1 % 2 : Nat) : Int))] [] τ := by
    intro f
    induction f with
    | zero =>
      intro τ t hf M I B e
      have e : t = v_ng A p q z := e
      have g1 := B.1
      have g2 := B.2.1
      have g3 := B.2.2.1
      have i2 := I.2.1
      have i3 := I.2.2.1
      have out : G 97 [some (2, 93, 0), some (0, 0, (p : Int)), some (0, 0, (q : Int)), some (0, 0, z), some (0, 0, ((t.2.2.2.1 % 2 : Nat) : Int))] [] τ := by
        have hr : (v_ng A p q z).2.2.2.1 ≠ 0 := by
          rw [← e]
          omega
        have k := h τ M (by rw [← e]; exact I) (by rw [← e]; exact B) hr
        have ew : ng_win A (p : Int) (q : Int) z = Nat.ble 3 t.2.1 := by
          show Nat.ble 3 (v_ng A p q z).2.1 = _
          rw [← e]
        rw [ew] at k
        refine fs_m_nightBy_97 hG ⟨r1, ?_⟩
        rw [t1, i2, fw_s (x := (t.2.1 : Int)) (by omega) (by omega), c3]
        refine ⟨fun u => ?_, fun u => ?_⟩
        · rw [if_neg (fun v => u (by have := Nat.le_of_ble_eq_true v; omega))] at k
          exact k
        · rw [if_pos (Nat.ble_eq_true_of_le (by omega))] at k
          exact k
      refine fs_m_nightBy_39 hG ⟨r1, ?_⟩
      rw [t1, t2, i2, i3, fw_s (x := (t.2.1 : Int)) (by omega) (by omega), fw_s (x := (t.2.2.1 : Int)) (by omega) (by omega), c3]
      exact ⟨fun _ => out, fun y1 => ⟨r2, fun _ => out, fun y2 => absurd y2 (by omega)⟩⟩
    | succ f ih =>
      intro τ t hf M I B e
      have g1 := B.1
      have g2 := B.2.1
      have g3 := B.2.2.1
      have g4 := B.2.2.2.1
      have i2 := I.2.1
      have i3 := I.2.2.1
      rw [ng_s] at e
      have out : ¬ (t.2.1 < 3 ∧ t.2.2.1 < 3) → G 97 [some (2, 93, 0), some (0, 0, (p : Int)), some (0, 0, (q : Int)), some (0, 0, z), some (0, 0, ((t.2.2.2.1 % 2 : Nat) : Int))] [] τ := fun y => by
        rw [if_neg y] at e
        exact (by
          have hr : (v_ng A p q z).2.2.2.1 ≠ 0 := by
            rw [← e]
            omega
          have k := h τ M (by rw [← e]; exact I) (by rw [← e]; exact B) hr
          have ew : ng_win A (p : Int) (q : Int) z = Nat.ble 3 t.2.1 := by
            show Nat.ble 3 (v_ng A p q z).2.1 = _
            rw [← e]
          rw [ew] at k
          refine fs_m_nightBy_97 hG ⟨r1, ?_⟩
          rw [t1, i2, fw_s (x := (t.2.1 : Int)) (by omega) (by omega), c3]
          refine ⟨fun u => ?_, fun u => ?_⟩
          · rw [if_neg (fun v => u (by have := Nat.le_of_ble_eq_true v; omega))] at k
            exact k
          · rw [if_pos (Nat.ble_eq_true_of_le (by omega))] at k
            exact k)
      refine fs_m_nightBy_39 hG ⟨r1, ?_⟩
      rw [t1, t2, i2, i3, fw_s (x := (t.2.1 : Int)) (by omega) (by omega), fw_s (x := (t.2.2.1 : Int)) (by omega) (by omega), c3]
      refine ⟨fun y => out (by omega), fun y1 => ⟨r2, fun y => out (by omega), fun y2 => ⟨A, p, q, t, _, rfl, rfl, oz_NMM M (by decide +kernel) hN, ⟨hp, hq⟩, hcl, (mk_row M (by decide) 3).trans h95, I, B, ⟨by omega, by omega⟩, fun σ1 M1 E => fs_m_nightBy_72 hG ?_⟩⟩⟩
      rw [if_pos ⟨by omega, by omega⟩] at e
      have n1 := ng_1B hN.2.1 (p := p) (q := q) B ⟨by omega, by omega⟩
      obtain ⟨e1, e3, e4, e5, e6, e7⟩ := E
      have M2 : ab_okM nm_R σ σ1 := on_trans M M1
      -- the winner's point, one round more
      have fi : (1 - ((t.2.2.2.1 % 2 : Nat) : Int)) = (((ng_1 A p q t).2.2.2.1 % 2 : Nat) : Int) := by
        show (1 - ((t.2.2.2.1 % 2 : Nat) : Int)) = (((t.2.2.2.1 + 1) % 2 : Nat) : Int)
        omega
      have er : fw_c ((t.2.2.2.1 : Int) + 1) = ((t.2.2.2.1 + 1 : Nat) : Int) := fw_s (by omega) (by omega)
      by_cases hw : nr_w A p q (t.2.2.2.1 % 2) t.1 = 0
      · rw [hw, show fw_c (1 + ((0 : Nat) : Int)) = 1 from fw_c1, show (1 : Int).toNat = 1 from rfl, t0, e6]
        refine ⟨by decide, by decide, trivial, r0, r0, trivial, ?_⟩
        rw [T1 (σ := σ1) (k := 120) (j := 1) (a := 120) (b := 0) (by decide), e5, er, fw_s (x := (t.2.1 : Int) + 1) (by omega) (by omega), fi]
        refine ih _ (ng_1 A p q t) (by show t.2.2.2.1 + 1 + f = 5; omega) (fw_okM_upa (fw_okM_upa M2 (by decide)) (by decide)) ⟨?_, ?_, ?_, ?_, ?_, ?_, ?_⟩ n1 e
        · rw [T1 (by decide), T1 (by decide)]
          exact e1
        · rw [T1 (by decide), ab_ups_eq]
          show (t.2.1 : Int) + 1 = ((if nr_w A p q (t.2.2.2.1 % 2) t.1 = 0 then t.2.1 + 1 else t.2.1 : Nat) : Int)
          rw [if_pos hw]
          rfl
        · rw [T1 (by decide), T1 (by decide), e7]
          show (t.2.2.1 : Int) = ((if nr_w A p q (t.2.2.2.1 % 2) t.1 = 0 then t.2.2.1 else t.2.2.1 + 1 : Nat) : Int)
          rw [if_pos hw]
        · rw [ab_ups_eq]
          rfl
        · rw [T1 (by decide), T1 (by decide)]
          exact e3
        · rw [T1 (by decide), T1 (by decide), e4]
          exact (if_neg (Nat.succ_ne_zero _)).symm
        · exact fun y => absurd y (Nat.succ_ne_zero _)
      · have hw1 : nr_w A p q (t.2.2.2.1 % 2) t.1 = 1 := by
          have b := nr_b_in hN.2.1 (p := p) (q := q) (first := t.2.2.2.1 % 2) (Nat.mod_lt _ (by decide)) t.1
          have : nr_w A p q (t.2.2.2.1 % 2) t.1 < 2 := by
            unfold nr_w
            split <;> omega
          omega
        rw [hw1, show fw_c (1 + ((1 : Nat) : Int)) = 2 from c2, show (2 : Int).toNat = 2 from rfl, t0, e7]
        refine ⟨by decide, by decide, trivial, r0, r0, trivial, ?_⟩
        rw [T1 (σ := σ1) (k := 120) (j := 2) (a := 120) (b := 0) (by decide), e5, er, fw_s (x := (t.2.2.1 : Int) + 1) (by omega) (by omega), fi]
        refine ih _ (ng_1 A p q t) (by show t.2.2.2.1 + 1 + f = 5; omega) (fw_okM_upa (fw_okM_upa M2 (by decide)) (by decide)) ⟨?_, ?_, ?_, ?_, ?_, ?_, ?_⟩ n1 e
        · rw [T1 (by decide), T1 (by decide)]
          exact e1
        · rw [T1 (by decide), T1 (by decide), e6]
          show (t.2.1 : Int) = ((if nr_w A p q (t.2.2.2.1 % 2) t.1 = 0 then t.2.1 + 1 else t.2.1 : Nat) : Int)
          rw [if_neg hw]
        · rw [T1 (by decide), ab_ups_eq]
          show (t.2.2.1 : Int) + 1 = ((if nr_w A p q (t.2.2.2.1 % 2) t.1 = 0 then t.2.2.1 else t.2.2.1 + 1 : Nat) : Int)
          rw [if_neg hw]
          rfl
        · rw [ab_ups_eq]
          rfl
        · rw [T1 (by decide), T1 (by decide)]
          exact e3
        · rw [T1 (by decide), T1 (by decide), e4]
          exact (if_neg (Nat.succ_ne_zero _)).symm
        · exact fun y => absurd y (Nat.succ_ne_zero _)
  have clr : ∀ (f k : Nat) (τ : ab_SG), k + f = 4 → ab_okM nm_R σ τ → τ 93 54 = fw_c z → (∀ j : Nat, j < k → τ 120 j = 0) → G 8 [some (2, 93, 0), some (0, 0, (p : Int)), some (0, 0, (q : Int)), some (0, 0, z), some (0, 0, (k : Int))] [] τ := by
    intro f
    induction f with
    | zero =>
      intro k τ hk M e z0
      have ek : k = 4 := by omega
      subst ek
      refine fs_m_nightBy_8 hG ⟨fun _ => ⟨by rw [c4]; decide, trivial, ?_⟩, fun y => absurd y (Int.lt_irrefl _)⟩
      rw [t4, fw_s (x := 99) (by decide) (by decide)]
      refine main 5 (ab_ups τ 120 4 99) (fw_c z, 0, 0, 0, 0, 9) rfl (fw_okM_upa M (by decide)) ⟨?_, ?_, ?_, ?_, ?_, ?_, fun _ => rfl⟩ ⟨Nat.zero_le 3, Nat.zero_le 3, rfl, Nat.le_refl 0, (show (1 : Int) ≤ 9 ∧ (9 : Int) ≤ 9 by decide), Nat.zero_le 5⟩ rfl
      · rw [T1 (by decide)]
        exact e
      · rw [T1 (by decide)]
        exact z0 1 (by decide)
      · rw [T1 (by decide)]
        exact z0 2 (by decide)
      · rw [T1 (by decide)]
        exact z0 0 (by decide)
      · rw [T1 (by decide)]
        exact z0 3 (by decide)
      · rw [ab_ups_eq]
        rfl
    | succ f ih =>
      intro k τ hk M e z0
      have ck : fw_c (k : Int) = (k : Int) := fw_s (by omega) (by omega)
      refine fs_m_nightBy_8 hG ⟨fun y => absurd y (by rw [c4, ck]; omega), fun _ => ⟨by rw [ck]; omega, trivial, ?_⟩⟩
      rw [ck, Int.toNat_natCast, fw_c0]
      have g := ih (k + 1) (ab_ups τ 120 k 0) (by omega) (fw_okM_upa M (by decide)) ((T1 (Or.inl (by decide))).trans e) (fun j hj => by
        by_cases c : j = k
        · rw [c, ab_ups_eq]
        · rw [T1 (by omega)]
          exact z0 j (by omega))
      exact g
  exact clr 4 0 (ab_ups σ 93 54 (fw_c z)) rfl (fw_okM_ups (fw_okM_refl _ _) (by decide)) ab_ups_eq (fun j hj => absurd hj (Nat.not_lt_zero j)))
theorem fm_m_isNight (hinj : nn_inj ad) : fw_H l cy ad wr cr D 333 1 sp_m_isNight := fw_mk hinj (⟨"NameNotesModel", "isNight", "(II)Z"⟩, prog_14_method_135_code, 3, (Option.some Jvm.ClassFile.FieldType.boolean), 2, true, 1) rfl rfl nn_KI20_ok nn_KJ20_ok nn_PF20_ok nn_PS20_ok (by decide +kernel) rfl rfl (List.forall_mem_cons.mpr ⟨fw_row nn_PM20_ok (x := 281) (k := 0) (mn := 249) (np := 1) (ob := true) (ci := 11) (⟨"NameNotesModel", "isPerson", "(I)Z"⟩, prog_14_method_44_code, 2, (Option.some Jvm.ClassFile.FieldType.boolean), 1, true, 1) rfl (by decide +kernel) rfl rfl (by decide) (fun _ => ⟨_, _, rfl⟩) (fm_m_isPerson hinj), (fun _ h => absurd h List.not_mem_nil)⟩) (fun as σ K h => by
  obtain ⟨A, p, q, rfl, ⟨ep, eq⟩, hN, h⟩ := h
  have nn := N_n hN.1
  have t1 : (fw_c 1).toNat = 1 := by rw [fw_c1]; rfl
  have no : ¬ v_nb A p q → (0 ≤ fw_c 0 ∧ fw_c 0 ≤ 1) ∧ K (some (0, 0, 0)) σ := fun z => ⟨fw_01, by rw [fw_bo_f z] at h; exact h⟩
  refine ⟨rfl, fun G hG => fs_m_isNight_0 hG ⟨p, rfl, fs_m_isNight_5 hG ?_⟩⟩
  rw [oz_m_pe hN ep]
  refine ⟨fun z => no (fun w => fw_bo_eq z w.1), fun z1 => ⟨q, rfl, fs_m_isNight_13 hG ?_⟩⟩
  rw [oz_m_pe hN eq, ep, eq, t1, (NM_n hN).2.1, fw_s (x := A 49 12) (by omega) (by omega)]
  refine ⟨fun z => no (fun w => fw_bo_eq z w.2.1), fun z2 => ⟨fun z => no (fun w => w.2.2.1 z), fun z3 => ⟨by rw [fw_c1]; decide, fun z => no (fun w => by have := w.2.2.2; omega), fun z4 => ⟨fw_11, ?_⟩⟩⟩⟩
  rw [fw_bo_t ⟨fw_bo_ne z1, fw_bo_ne z2, z3, z4⟩] at h
  exact h)
theorem fm_m_nights (hinj : nn_inj ad) : fw_H l cy ad wr cr D 340 9 sp_m_nights := fw_mk hinj (⟨"NameNotesModel", "nights", "(IIII)I"⟩, prog_14_method_138_code, 7, (Option.some Jvm.ClassFile.FieldType.int), 4, true, 0) rfl rfl nn_KI20_ok nn_KJ20_ok nn_PF20_ok nn_PS20_ok (by decide +kernel) rfl rfl (List.forall_mem_cons.mpr ⟨fw_row nn_PM20_ok (x := 171) (k := 0) (mn := 226) (np := 3) (ob := false) (ci := 0) (⟨"NameNotesModel", "isIn", "(III)Z"⟩, prog_14_method_8_code, 3, (Option.some Jvm.ClassFile.FieldType.boolean), 3, false, 1) rfl (by decide +kernel) rfl rfl (by decide) (fun q => by cases q) (fm_m_isIn hinj), (List.forall_mem_cons.mpr ⟨fw_row nn_PM20_ok (x := 483) (k := 0) (mn := 333) (np := 2) (ob := true) (ci := 11) (⟨"NameNotesModel", "isNight", "(II)Z"⟩, prog_14_method_135_code, 3, (Option.some Jvm.ClassFile.FieldType.boolean), 2, true, 1) rfl (by decide +kernel) rfl rfl (by decide) (fun _ => ⟨_, _, rfl⟩) (fm_m_isNight hinj), (List.forall_mem_cons.mpr ⟨fw_row nn_PM20_ok (x := 486) (k := 0) (mn := 334) (np := 3) (ob := true) (ci := 11) (⟨"NameNotesModel", "nightBy", "(III)I"⟩, prog_14_method_134_code, 5, (Option.some Jvm.ClassFile.FieldType.int), 3, true, 0) rfl (by decide +kernel) rfl rfl (by decide) (fun _ => ⟨_, _, rfl⟩) (fm_m_nightBy hinj), (fun _ h => absurd h List.not_mem_nil)⟩)⟩)⟩) (fun as σ0 K h => by
  obtain ⟨A, p, q, n, z, rfl, ⟨ep, eq, en, ez⟩, hN0, h30, h⟩ := h
  have c100 : fw_c 100 = 100 := fw_s (by decide) (by decide)
  refine ⟨rfl, fun G hG => fs_m_nights_0 hG ?_⟩
  rw [fw_c0]
  have hN : NM (ab_ups σ0 93 0 0) A := oz_NMM (nm_93 σ0) (by decide +kernel) hN0
  have h3 : 0 < A 49 13 → (ab_ups σ0 93 0 0) 95 3 = A 49 14 := fun z => by rw [ab_ups_ne (fun z => absurd z.1 (by decide))]; exact h30 z
  have hup : ∀ σ' : ab_SG, ab_okM nm_Z (ab_ups σ0 93 0 0) σ' → ab_okM nm_Z σ0 σ' := fun σ' M => on_trans (nm_93 σ0) M
  generalize ab_ups σ0 93 0 0 = σ at hN h3 h hup ⊢
  unfold v_nights at h
  have no : ¬ (v_nb A p q ∧ (1 ≤ n ∧ n ≤ 100)) → K (some (0, 0, (-1))) σ := fun y => by
    have k := h σ (hup σ (fw_okM_refl _ _))
    rw [if_neg y] at k
    exact k
  refine ⟨A, p, q, rfl, ⟨ep, eq⟩, hN, fs_m_nights_11 hG ⟨fun y => no (fun w => fw_bo_eq y w.1), fun y => ⟨_, _, _, rfl, fs_m_nights_21 hG ⟨fun v => ?_, fun v => ?_⟩⟩⟩⟩
  · have v := fw_bo_ne v
    rw [en, fw_c1, c100] at v
    have hb := fw_bo_ne y
    have nn := N_n hN.1
    have hb9 := hb
    obtain ⟨h1, h2, hne, h4⟩ := hb9
    obtain ⟨p, rfl⟩ := Int.eq_ofNat_of_zero_le h1.1
    obtain ⟨q, rfl⟩ := Int.eq_ofNat_of_zero_le h2.1
    obtain ⟨N, rfl⟩ := Int.eq_ofNat_of_zero_le (show 0 ≤ n by omega)
    rw [if_pos ⟨hb, v⟩, Int.toNat_natCast] at h
    have loop : ∀ (f i : Nat) (τ : ab_SG), i + f = N → ab_okM nm_R σ τ → G 32 [some (2, 93, 0), some (0, 0, (p : Int)), some (0, 0, (q : Int)), some (0, 0, (N : Int)), some (0, 0, z), some (0, 0, ng_cnt A (p : Int) (q : Int) z i), some (0, 0, (i : Int))] [] τ := by
      intro f
      induction f with
      | zero =>
        intro i τ hi M
        have ei : i = N := by omega
        subst ei
        exact fs_m_nights_32 hG ⟨fun _ => h τ (hup τ (od_up M (by decide))), fun w => absurd w (Int.lt_irrefl _)⟩
      | succ f ih =>
        intro i τ hi M
        have ci : fw_c (i : Int) = (i : Int) := fw_s (by omega) (by omega)
        have cN : fw_c (N : Int) = (N : Int) := fw_s (by omega) (by omega)
        refine fs_m_nights_32 hG ⟨fun w => absurd w (by rw [ci, cN]; omega), fun _ => ⟨A, p, q, _, rfl, oz_NMM M (by decide +kernel) hN, ⟨h1.2, h2.2⟩, h4, (mk_row M (by decide) 3).trans (h3 (by omega)), fun σ1 M1 _ _ _ => fs_m_nights_49 hG ?_⟩⟩
        have g := ih (i + 1) σ1 (by omega) (on_trans M M1)
        rw [ng_cs] at g
        by_cases c : ng_win A (p : Int) (q : Int) (z + (i : Int)) = true
        · rw [if_pos c] at g ⊢
          exact ⟨fun w => absurd rfl w, fun _ => fs_m_nights_56 hG g⟩
        · rw [if_neg c] at g ⊢
          exact ⟨fun _ => fs_m_nights_56 hG g, fun w => absurd w (by rw [fw_c1, fw_s (x := -1) (by decide) (by decide)]; decide)⟩
    exact loop N 0 σ (Nat.zero_add N) (fw_okM_refl _ _)
  · have v := fw_bo_eq v
    rw [en, fw_c1, c100] at v
    exact no (fun w => v w.2))
end
end
section
/-! the relation over calls that play nights -/
theorem vW_nj {σ σ1 σm : ab_SG} (hc : cN σ) (h1 : ab_okM nz_M σ σ1) (hv : vW σm σ1) : vW σm σ := vW_free (by decide +kernel) h1 hv
theorem RQ_nj {σ σ1 σm σ2 σ5 : ab_SG} (hc : cN σ) (hR : RQ σ) (h1 : ab_okM nz_M σ σ1) (hv : vW σm σ1) (h2 : ab_okM nm_Z σm σ2) (hw : vW σ5 σ2) : RQ σ5 :=
  ⟨RQ9_tr (vw_W hw) ⟨ra_two (cn_N hc) h1 (vw_W hv) h2 (by decide) (by decide) hR.1.1, rb_two (cn_N hc) h1 (vw_W hv) h2 (by decide) (by decide) hR.1.2.1, rk_two (cn_N hc) h1 (vw_W hv) h2 (by decide) (by decide) hR.1.2.2⟩, rx_two hc h1 hv h2 hw (by decide +kernel) (by decide +kernel) hR.2⟩
theorem du_95j {σ σ1 σm A : ab_SG} (hc : cN σ) (hR : RQ σ) (h1 : ab_okM nz_M σ σ1) (hv : vW σm σ1) (hA : cn_is σ 3 A) (hp : 0 < A 49 13) : σm 95 3 = A 49 14 := by
  have e : σm 95 3 = σ 95 3 := xm_at hc h1 hv (Or.inl (su95 (by decide))) (by decide)
  obtain ⟨-, -, h13, h4⟩ := hR.1.2.1
  rcases h4 with ⟨-, b⟩ | ⟨-, -, -, -, b⟩
  · rw [e, b]
    exact hA.2.2.2.1
  · have := hA.2.2.1
    omega
end
