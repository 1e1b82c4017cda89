/-! who must name: what both sides keep of an evening, the studios' numbers -/
def xs_L : List (Nat × Nat) := [(69, 5), (69, 6), (69, 7), (72, 0), (72, 1), (72, 2), (72, 3), (72, 4), (117, 0), (117, 1), (117, 2), (117, 3), (117, 4), (93, 51), (93, 52), (93, 23), (0, 17), (3, 12), (3, 13), (3, 15), (18, 12), (18, 13), (18, 15), (18, 16), (33, 12), (33, 13), (33, 15), (33, 16), (95, 4), (97, 4), (97, 478)]
abbrev xs (k j : Nat) : Prop := (k, j) ∈ xs_L
def xs_b (M : ab_ML) : Bool := xs_L.all (fun q => mk_b M q.1 q.2)
/-- but for the reference's row 95 -/
def xs_n (M : ab_ML) : Bool := xs_L.all (fun q => q.1.beq 95 || mk_b M q.1 q.2)
def xs_z (_ : ab_ML) : Bool := true
theorem xs_ok {M : ab_ML} {σ σ' : ab_SG} (h : ab_okM M σ σ') (hk : xs_b M = true) {k j : Nat} (hs : xs k j) : σ' k j = σ k j := mk_at h (List.all_eq_true.mp hk (k, j) hs)
theorem xs_on {M : ab_ML} {σ σ' : ab_SG} (h : ab_okM M σ σ') (hk : xs_n M = true) {k j : Nat} (hs : xs k j) (h95 : k ≠ 95) : σ' k j = σ k j := by
  have g := List.all_eq_true.mp hk (k, j) hs
  rw [Bool.or_eq_true] at g
  rcases g with g | g
  · exact absurd (Nat.eq_of_beq_eq_true g) h95
  · exact mk_at h g
theorem xs_rg : xs_L.all (fun q => su_b q.1 q.2 q.2) = true := by decide +kernel
theorem xs_cn {σ : ab_SG} (h : ab_okR nn_T σ) {k j : Nat} (hs : xs k j) : fw_c (σ k j) = σ k j := su_b_ok (List.all_eq_true.mp xs_rg (k, j) hs) h (Nat.le_refl j) (Nat.le_refl j)
theorem xv_of {cy : Nat → ClassId} {ad wr : Nat → Nat} {D : va_G} {σ σ' : ab_SG} {H : Heap} (hR : ab_okR nn_T σ) (h : va_P D vwCl (ab_WD cy ad wr nn_sh σ) H) (h' : va_P D vwCl (ab_WD cy ad wr nn_sh σ') H) : ∀ k j : Nat, xs k j → σ k j = fw_c (σ' k j) := by
  have g : ∀ q ∈ xs_L, fw_c (σ q.1 q.2) = fw_c (σ' q.1 q.2) := by
    unfold xs_L
    exact List.forall_mem_cons.mpr ⟨wd_int h h' (k := 69) (j := 5) rfl rfl rfl (by decide), List.forall_mem_cons.mpr ⟨wd_int h h' (k := 69) (j := 6) rfl rfl rfl (by decide), List.forall_mem_cons.mpr ⟨wd_int h h' (k := 69) (j := 7) rfl rfl rfl (by decide), List.forall_mem_cons.mpr ⟨wd_arr h h' (k := 72) (t := 0) (n := 5) (j := 0) rfl (by decide) (by decide), List.forall_mem_cons.mpr ⟨wd_arr h h' (k := 72) (t := 0) (n := 5) (j := 1) rfl (by decide) (by decide), List.forall_mem_cons.mpr ⟨wd_arr h h' (k := 72) (t := 0) (n := 5) (j := 2) rfl (by decide) (by decide), List.forall_mem_cons.mpr ⟨wd_arr h h' (k := 72) (t := 0) (n := 5) (j := 3) rfl (by decide) (by decide), List.forall_mem_cons.mpr ⟨wd_arr h h' (k := 72) (t := 0) (n := 5) (j := 4) rfl (by decide) (by decide), List.forall_mem_cons.mpr ⟨wd_arr h h' (k := 117) (t := 0) (n := 5) (j := 0) rfl (by decide) (by decide), List.forall_mem_cons.mpr ⟨wd_arr h h' (k := 117) (t := 0) (n := 5) (j := 1) rfl (by decide) (by decide), List.forall_mem_cons.mpr ⟨wd_arr h h' (k := 117) (t := 0) (n := 5) (j := 2) rfl (by decide) (by decide), List.forall_mem_cons.mpr ⟨wd_arr h h' (k := 117) (t := 0) (n := 5) (j := 3) rfl (by decide) (by decide), List.forall_mem_cons.mpr ⟨wd_arr h h' (k := 117) (t := 0) (n := 5) (j := 4) rfl (by decide) (by decide), List.forall_mem_cons.mpr ⟨wd_int h h' (k := 93) (j := 51) rfl rfl rfl (by decide), List.forall_mem_cons.mpr ⟨wd_int h h' (k := 93) (j := 52) rfl rfl rfl (by decide), List.forall_mem_cons.mpr ⟨wd_int h h' (k := 93) (j := 23) rfl rfl rfl (by decide), List.forall_mem_cons.mpr ⟨wd_int h h' (k := 0) (j := 17) rfl rfl rfl (by decide), List.forall_mem_cons.mpr ⟨wd_int h h' (k := 3) (j := 12) rfl rfl rfl (by decide), List.forall_mem_cons.mpr ⟨wd_int h h' (k := 3) (j := 13) rfl rfl rfl (by decide), List.forall_mem_cons.mpr ⟨wd_int h h' (k := 3) (j := 15) rfl rfl rfl (by decide), List.forall_mem_cons.mpr ⟨wd_int h h' (k := 18) (j := 12) rfl rfl rfl (by decide), List.forall_mem_cons.mpr ⟨wd_int h h' (k := 18) (j := 13) rfl rfl rfl (by decide), List.forall_mem_cons.mpr ⟨wd_int h h' (k := 18) (j := 15) rfl rfl rfl (by decide), List.forall_mem_cons.mpr ⟨wd_int h h' (k := 18) (j := 16) rfl rfl rfl (by decide), List.forall_mem_cons.mpr ⟨wd_int h h' (k := 33) (j := 12) rfl rfl rfl (by decide), List.forall_mem_cons.mpr ⟨wd_int h h' (k := 33) (j := 13) rfl rfl rfl (by decide), List.forall_mem_cons.mpr ⟨wd_int h h' (k := 33) (j := 15) rfl rfl rfl (by decide), List.forall_mem_cons.mpr ⟨wd_int h h' (k := 33) (j := 16) rfl rfl rfl (by decide), List.forall_mem_cons.mpr ⟨wd_arr h h' (k := 95) (t := 0) (n := 474) (j := 4) rfl (by decide) (by decide), List.forall_mem_cons.mpr ⟨wd_arr h h' (k := 97) (t := 0) (n := 948) (j := 4) rfl (by decide) (by decide), List.forall_mem_cons.mpr ⟨wd_arr h h' (k := 97) (t := 0) (n := 948) (j := 478) rfl (by decide) (by decide), fun _ z => absurd z List.not_mem_nil⟩⟩⟩⟩⟩⟩⟩⟩⟩⟩⟩⟩⟩⟩⟩⟩⟩⟩⟩⟩⟩⟩⟩⟩⟩⟩⟩⟩⟩⟩⟩
  intro k j hs
  rw [← xs_cn hR hs]
  exact g (k, j) hs
def nm_N (σ : ab_SG) : Prop := σ 69 7 = 1 ∧ σ 72 0 = 0 ∧ σ 72 3 ≠ -1
/-- a studio that is there -/
def lv (σ : ab_SG) (b : Nat) : Prop := b = 3 ∨ (b = 18 ∧ σ 18 16 = 1) ∨ (b = 33 ∧ σ 33 16 = 1)
def rsv (σ : ab_SG) (b : Nat) : Int := if b = 3 then σ 95 4 else if b = 18 then σ 97 4 else σ 97 478
def EX1 (σ : ab_SG) : Prop := (σ 69 7 = 1 ∧ ∀ w : Nat, w < 5 → σ 72 w = σ 117 w) ∨ σ 69 7 = 0
def EX2 (σ : ab_SG) : Prop := (nm_N σ → σ 93 51 = σ 69 6 ∧ σ 93 52 = σ 69 5 ∧ (0 ≤ σ 69 5 ∧ 0 ≤ σ 72 2) ∧ (1 ≤ σ 72 1 ∧ σ 72 1 ≤ 9) ∧ (0 ≤ σ 69 6 ∧ σ 69 6 ≤ σ 0 17)) ∧ (¬ nm_N σ → σ 93 51 = -1)
def EX3 (σ : ab_SG) : Prop := σ 0 17 = σ 93 23 ∧ ∀ b : Nat, lv σ b → σ b 15 = rsv σ b ∧ 0 ≤ σ b 15 ∧ σ b 15 ≤ σ 0 17
def EX4 (σ : ab_SG) : Prop := nm_N σ → ∀ b : Nat, lv σ b → σ b 15 = σ 69 6 → σ 69 5 < σ b 12 ∧ σ 72 2 < σ b 13
def EX5 (σ : ab_SG) : Prop := ∀ b b' : Nat, lv σ b → lv σ b' → σ b 15 = σ b' 15 → σ b 12 = σ b' 12 ∧ σ b 13 = σ b' 13
def EX (σ : ab_SG) : Prop := EX1 σ ∧ EX2 σ ∧ EX3 σ ∧ EX4 σ ∧ EX5 σ
def RX (σ : ab_SG) : Prop := RQ σ ∧ EX σ
theorem lv_3 (σ : ab_SG) : lv σ 3 := Or.inl rfl
theorem lv_b {σ : ab_SG} {b : Nat} (h : lv σ b) : b = 3 ∨ b = 18 ∨ b = 33 := by
  rcases h with h | ⟨h, -⟩ | ⟨h, -⟩ <;> omega
theorem EX_cg {σ σ' : ab_SG} (h : ∀ k j : Nat, xs k j → σ' k j = σ k j) (hE : EX σ) : EX σ' := by
  have m : ∀ k j : Nat, (k, j) ∈ xs_L → σ' k j = σ k j := h
  have e7 := m 69 7 (by decide)
  have e6 := m 69 6 (by decide)
  have e5 := m 69 5 (by decide)
  have f : ∀ w : Nat, w < 5 → σ' 72 w = σ 72 w ∧ σ' 117 w = σ 117 w := by
    intro w hw
    rcases (show w = 0 ∨ w = 1 ∨ w = 2 ∨ w = 3 ∨ w = 4 by omega) with rfl | rfl | rfl | rfl | rfl
    · exact ⟨m 72 0 (by decide), m 117 0 (by decide)⟩
    · exact ⟨m 72 1 (by decide), m 117 1 (by decide)⟩
    · exact ⟨m 72 2 (by decide), m 117 2 (by decide)⟩
    · exact ⟨m 72 3 (by decide), m 117 3 (by decide)⟩
    · exact ⟨m 72 4 (by decide), m 117 4 (by decide)⟩
  have n : nm_N σ' ↔ nm_N σ := by
    unfold nm_N
    rw [e7, (f 0 (by decide)).1, (f 3 (by decide)).1]
  have l : ∀ b : Nat, lv σ' b ↔ lv σ b := fun b => by
    unfold lv
    rw [m 18 16 (by decide), m 33 16 (by decide)]
  have s : ∀ b : Nat, lv σ b → σ' b 12 = σ b 12 ∧ σ' b 13 = σ b 13 ∧ σ' b 15 = σ b 15 := fun b hb => by
    rcases lv_b hb with rfl | rfl | rfl
    · exact ⟨m 3 12 (by decide), m 3 13 (by decide), m 3 15 (by decide)⟩
    · exact ⟨m 18 12 (by decide), m 18 13 (by decide), m 18 15 (by decide)⟩
    · exact ⟨m 33 12 (by decide), m 33 13 (by decide), m 33 15 (by decide)⟩
  have r : ∀ b : Nat, rsv σ' b = rsv σ b := fun b => by
    unfold rsv
    rw [m 95 4 (by decide), m 97 4 (by decide), m 97 478 (by decide)]
  obtain ⟨h1, h2, h3, h4, h5⟩ := hE
  refine ⟨?_, ⟨fun z => ?_, fun z => ?_⟩, ⟨?_, fun b hb => ?_⟩, fun z b hb q => ?_, fun b b' hb hb' q => ?_⟩
  · rcases h1 with ⟨a, b⟩ | a
    · exact Or.inl ⟨e7.trans a, fun w hw => by rw [(f w hw).1, (f w hw).2, b w hw]⟩
    · exact Or.inr (e7.trans a)
  · rw [m 93 51 (by decide), m 93 52 (by decide), e6, e5, (f 1 (by decide)).1, (f 2 (by decide)).1, m 0 17 (by decide)]
    exact h2.1 (n.mp z)
  · rw [m 93 51 (by decide)]
    exact h2.2 (fun y => z (n.mpr y))
  · rw [m 0 17 (by decide), m 93 23 (by decide)]
    exact h3.1
  · have hb := (l b).mp hb
    rw [(s b hb).2.2, r b, m 0 17 (by decide)]
    exact h3.2 b hb
  · have hb := (l b).mp hb
    rw [(s b hb).2.2, e6] at q
    rw [(s b hb).1, (s b hb).2.1, e5, (f 2 (by decide)).1]
    exact h4 (n.mp z) b hb q
  · have hb := (l b).mp hb
    have hb' := (l b').mp hb'
    rw [(s b hb).2.2, (s b' hb').2.2] at q
    rw [(s b hb).1, (s b hb).2.1, (s b' hb').1, (s b' hb').2.1]
    exact h5 b b' hb hb' q
/-- what one side answers is what the other one does -/
theorem EX_own {σ σ3 A : ab_SG} (hE : EX σ) (h3 : ∀ k j : Nat, xs k j → σ3 k j = σ k j) (w : Int) : v_told A (tm_ok σ3) (σ3 117 2) (σ3 117 1) (σ3 93 52) w = v_told A (td_ok σ) (σ 72 2) (σ 72 1) (σ 69 5) w := by
  have m : ∀ k j : Nat, (k, j) ∈ xs_L → σ3 k j = σ k j := h3
  obtain ⟨h1, h2, hS, -, -⟩ := hE
  have s3 := hS.2 3 (lv_3 σ)
  have r3 : rsv σ 3 = σ 95 4 := if_pos rfl
  unfold v_told
  by_cases hN : nm_N σ
  · obtain ⟨a, b, -, -, c⟩ := h2.1 hN
    have e : ∀ w : Nat, w < 5 → σ 72 w = σ 117 w := by
      rcases h1 with ⟨-, e⟩ | e
      · exact e
      · exact absurd (hN.1.symm.trans e) (by decide)
    by_cases q : σ 69 6 = σ 3 15
    · rw [if_pos (show tm_ok σ3 from ⟨by rw [m 93 51 (by decide)]; omega, by rw [m 93 51 (by decide), m 95 4 (by decide)]; omega⟩), if_pos (show td_ok σ from ⟨hN.1, hN.2.1, hN.2.2, q⟩), m 117 2 (by decide), m 117 1 (by decide), m 93 52 (by decide), ← e 2 (by decide), ← e 1 (by decide), b]
    · rw [if_neg (show ¬ tm_ok σ3 from fun z => by
        have z2 := z.2
        rw [m 93 51 (by decide), m 95 4 (by decide)] at z2
        omega), if_neg (show ¬ td_ok σ from fun z => q z.2.2.2)]
  · have a := h2.2 hN
    rw [if_neg (show ¬ tm_ok σ3 from fun z => by
      have z1 := z.1
      rw [m 93 51 (by decide)] at z1
      exact z1 a), if_neg (show ¬ td_ok σ from fun z => hN ⟨z.1, z.2.1, z.2.2.1⟩)]
theorem EX_tdb {σ A : ab_SG} (hE : EX σ) (hn : ∀ k j : Nat, xs k j → fw_c (σ k j) = σ k j) (hN : NC σ A) : td_b σ A := by
  obtain ⟨h1, h2, -, h4, -⟩ := hE
  have m : ∀ k j : Nat, (k, j) ∈ xs_L → fw_c (σ k j) = σ k j := hn
  refine ⟨?_, ⟨m 72 0 (by decide), m 72 3 (by decide), m 69 6 (by decide), m 3 15 (by decide)⟩, fun z => ?_⟩
  · rcases h1 with ⟨a, -⟩ | a
    · exact Or.inr a
    · exact Or.inl a
  · have k := h2.1 ⟨z.1, z.2.1, z.2.2.1⟩
    have g := h4 ⟨z.1, z.2.1, z.2.2.1⟩ 3 (lv_3 σ) z.2.2.2.symm
    rw [show σ 3 12 = A 49 12 from hN.2.2.2.1, show σ 3 13 = A 49 13 from hN.2.2.2.2.1] at g
    exact ⟨⟨k.2.2.1.2, g.2⟩, k.2.2.2.1, ⟨k.2.2.1.1, g.1⟩⟩
/-! who names has a bid and a bidder -/
def jg_C (A : ab_SG) (s : jg_T) : Prop := s.2.2.2.1 < A 49 13 ∧ (s.2.2.1 ≠ 0 → 0 ≤ s.2.2.2.1) ∧ (s.2.2.2.2.1 ≠ -1 → s.2.2.1 ≠ 0)
theorem jg_1C {A : ab_SG} {s : jg_T} {i p n : Int} (h : jg_C A s) (hp : 0 ≤ p ∧ p < A 49 13) : jg_C A (jg_1 A s i p n) := by
  unfold jg_1
  split
  · exact h
  · split
    · exact h
    · rename_i w
      split
      · rename_i n0
        refine ⟨h.1, h.2.1, fun _ => ?_⟩
        show s.2.2.1 ≠ 0
        intro y
        refine w (fun z => ?_)
        unfold jg_w at z
        split at z
        · exact absurd z (by decide)
        · split at z
          · exact absurd z (by decide)
          · exact absurd z (by decide)
      · rename_i n0
        exact ⟨hp.2, fun _ => hp.1, fun _ => n0⟩
theorem ev_pn {A : ab_SG} (hi : RI A) {e : tk_E} {p : Nat} (h : (ev_g A e p).1 = 0) (h13 : 0 < A 49 13) : 0 ≤ ev_p A e p ∧ ev_p A e p < A 49 13 := by
  have k := pr_sk_0 (ev_g0 h).1
  refine ⟨k.2.2.1, ?_⟩
  show pr_ix A e 59 (A 49 13) p < A 49 13
  omega
theorem ev_p13 {A : ab_SG} (hi : RI A) {e : tk_E} {p : Nat} (h : (ev_g A e p).1 = 0) : 0 < A 49 13 := by
  have k := pr_sk_0 (ev_g0 h).1
  have n := hi.2.2.1
  have k2 := k.2.2.1
  by_cases c : A 49 13 = 0
  · exfalso
    have : pr_ix A e 59 (A 49 13) p = -1 := by
      unfold pr_ix
      rw [c]
      rfl
    omega
  · omega
theorem jg_nC {A : ab_SG} (hi : RI A) {e : tk_E} : ∀ i : Nat, (∀ j : Nat, j < i → (ev_g A e (ev_q e j)).1 = 0) → jg_C A (jg_n A e i) := by
  intro i
  induction i with
  | zero =>
    intro _
    have n := hi.2.2.1
    exact ⟨(show (-1 : Int) < A 49 13 by omega), fun z => absurd rfl z, fun z => absurd rfl z⟩
  | succ i ih =>
    intro h
    rw [jg_ns]
    have g := h i (Nat.lt_succ_self i)
    exact jg_1C (ih (fun j hj => h j (by omega))) (ev_pn hi g (ev_p13 hi g))
theorem xs_f : xs_L.all (fun q => mk_b ef_M q.1 q.2 && mk_b mf_N q.1 q.2) = true := by decide +kernel
theorem ev_an (A : ab_SG) (e : tk_E) : ∀ f i : Nat, (ev_a A e f i).2.2 ≤ i + f := by
  intro f
  induction f with
  | zero => intro i; exact Nat.le_refl i
  | succ f ih =>
    intro i
    by_cases c : (tk e (ev_q e i)).1 = 0
    · rw [ev_a0 c]
      show i ≤ i + (f + 1)
      omega
    by_cases d : (ev_g A e (ev_q e i)).1 ≠ 0
    · rw [ev_a1 c d]
      show i ≤ i + (f + 1)
      omega
    · rw [ev_a2 c (by omega)]
      have := ih (i + 1)
      omega
theorem ev_rn (A : ab_SG) (e : tk_E) : (ev_r A e).2.2 ≤ 400 := by
  by_cases c : (ev_h A e).1 ≠ 0
  · rw [ev_r1 c]
    exact Nat.zero_le 400
  · rw [ev_r2 (by omega)]
    have := ev_an A e 400 0
    omega
/-- an evening -/
theorem EX_te {A σ σf σ3 σf2 σ5 : ab_SG} (hE : EX σ) (hN : NC σ A) (hn : ∀ k j : Nat, xs k j → fw_c (σ k j) = σ k j) (hn3 : ∀ k j : Nat, xs k j → fw_c (σ3 k j) = σ3 k j) (c : k_evening A σ σf) (x3 : ∀ k j : Nat, xs k j → σ3 k j = fw_c (σf k j)) (r : km_evening A (eo σ) σ3 σf2) (x5 : ∀ k j : Nat, xs k j → σ5 k j = fw_c (σf2 k j)) : EX σ5 := by
  have k3 : ∀ k j : Nat, (k, j) ∈ xs_L → mk_b en_M k j = true → σ3 k j = σ k j := fun k j hs hk => by rw [x3 k j hs, mk_at c.1 hk, hn k j hs]
  have k5 : ∀ k j : Nat, (k, j) ∈ xs_L → mk_b me_N k j = true → σ5 k j = σ3 k j := fun k j hs hk => by rw [x5 k j hs, mk_at r.1 hk, hn3 k j hs]
  rcases c.2.2 with ⟨q, M, -⟩ | ⟨q, -, J, a5, a6, a7⟩
  · rcases r.2.2.2 with ⟨-, M2, -⟩ | ⟨q2, -⟩
    · refine EX_cg (fun k j hs => ?_) hE
      have g := List.all_eq_true.mp xs_f (k, j) hs
      rw [Bool.and_eq_true] at g
      have e3 : σ3 k j = σ k j := by rw [x3 k j hs, mk_at M g.1, hn k j hs]
      rw [x5 k j hs, mk_at M2 g.2, hn3 k j hs, e3]
    · exact absurd q2 q
  · rcases r.2.2.2 with ⟨q2, -⟩ | ⟨-, -, J2, b51, b52⟩
    · exact absurd q q2
    · have ro := ev_rok q
      have h0 := pr_sk_0 (ev_h0 ro.1).2.1
      have hi := hN.1
      have n12 := hi.2.1
      have n13 := hi.2.2.1
      have hc : 0 ≤ ev_c A (eo σ) ∧ ev_c A (eo σ) < A 49 12 := by
        refine ⟨h0.2.2.1, ?_⟩
        show pr_ix A (eo σ) 58 (A 49 12) (tn (eo σ) 0) < A 49 12
        by_cases z : A 49 12 = 0
        · exfalso
          have y : pr_ix A (eo σ) 58 (A 49 12) (tn (eo σ) 0) = -1 := by
            unfold pr_ix
            rw [z]
            rfl
          have := h0.2.2.1
          omega
        · have := h0.2.2.2
          omega
      have hB := jg_nB hi (e := eo σ) (ev_r A (eo σ)).2.2 (ev_rn A (eo σ)) ro.2
      have hC := jg_nC hi (e := eo σ) (ev_r A (eo σ)).2.2 ro.2
      generalize jg_n A (eo σ) (ev_r A (eo σ)).2.2 = s at hB hC J J2 b51
      obtain ⟨why, wr, b, d, m, t⟩ := s
      obtain ⟨B1, -, B3, B4, B5, B6, -⟩ := hB
      obtain ⟨C1, C2, C3⟩ := hC
      replace B1 : 0 ≤ why ∧ why ≤ 4 := B1
      replace B3 : 0 ≤ b ∧ b ≤ 9 := B3
      replace B4 : -1 ≤ d ∧ d ≤ 4 := B4
      replace B5 : -1 ≤ m ∧ m ≤ 4 := B5
      replace B6 : -1 ≤ t ∧ t ≤ 4 := B6
      replace C1 : d < A 49 13 := C1
      replace C2 : b ≠ 0 → 0 ≤ d := C2
      replace C3 : m ≠ -1 → b ≠ 0 := C3
      replace J : σf 72 0 = why ∧ σf 72 1 = b ∧ σf 72 2 = d ∧ σf 72 3 = m ∧ σf 72 4 = t := J
      replace J2 : σf2 117 0 = why ∧ σf2 117 1 = b ∧ σf2 117 2 = d ∧ σf2 117 3 = m ∧ σf2 117 4 = t := J2
      replace b51 : σf2 93 51 = if why = 0 ∧ m ≠ -1 then fw_c (σ3 95 4) else -1 := b51
      obtain ⟨g1, g2, g3, g4, g5⟩ := hE
      have s3 := g3.2 3 (lv_3 σ)
      have r3 : rsv σ 3 = σ 95 4 := if_pos rfl
      have q95 : σ3 95 4 = σ 3 15 := by rw [k3 95 4 (by decide) (by decide)]; omega
      have f1 : ∀ k j : Nat, ∀ v : Int, (k, j) ∈ xs_L → mk_b me_N k j = true → σf k j = v → -2000 ≤ v ∧ v ≤ 2000 → σ5 k j = v := fun k j v h1 h2 h3 h4 => by rw [k5 k j h1 h2, x3 k j h1, h3]; exact fw_s h4.1 h4.2
      have f2 : ∀ k j : Nat, ∀ v : Int, (k, j) ∈ xs_L → σf2 k j = v → -2000 ≤ v ∧ v ≤ 2000 → σ5 k j = v := fun k j v h1 h3 h4 => by rw [x5 k j h1, h3]; exact fw_s h4.1 h4.2
      have v7 := f1 69 7 1 (by decide) (by decide) a7 (by decide)
      have v5 := f1 69 5 _ (by decide) (by decide) a5 ⟨by omega, by omega⟩
      have v6 : σ5 69 6 = σ 3 15 := by rw [k5 69 6 (by decide) (by decide), x3 69 6 (by decide), a6, fw_c_c, hn 3 15 (by decide)]
      have c0 := f1 72 0 _ (by decide) (by decide) J.1 ⟨by omega, by omega⟩
      have c1 := f1 72 1 _ (by decide) (by decide) J.2.1 ⟨by omega, by omega⟩
      have c2 := f1 72 2 _ (by decide) (by decide) J.2.2.1 ⟨by omega, by omega⟩
      have c3 := f1 72 3 _ (by decide) (by decide) J.2.2.2.1 ⟨by omega, by omega⟩
      have c4 := f1 72 4 _ (by decide) (by decide) J.2.2.2.2 ⟨by omega, by omega⟩
      have m0 := f2 117 0 _ (by decide) J2.1 ⟨by omega, by omega⟩
      have m1 := f2 117 1 _ (by decide) J2.2.1 ⟨by omega, by omega⟩
      have m2 := f2 117 2 _ (by decide) J2.2.2.1 ⟨by omega, by omega⟩
      have m3 := f2 117 3 _ (by decide) J2.2.2.2.1 ⟨by omega, by omega⟩
      have m4 := f2 117 4 _ (by decide) J2.2.2.2.2 ⟨by omega, by omega⟩
      have v52 := f2 93 52 _ (by decide) b52 ⟨by omega, by omega⟩
      have v51 : σ5 93 51 = if why = 0 ∧ m ≠ -1 then σ 3 15 else -1 := by
        rw [x5 93 51 (by decide), b51]
        split
        · rw [fw_c_c, q95, hn 3 15 (by decide)]
        · exact fw_s (by decide) (by decide)
      have ot : ∀ k j : Nat, (k, j) ∈ xs_L → mk_b en_M k j = true → mk_b me_N k j = true → σ5 k j = σ k j := fun k j h1 h2 h3 => (k5 k j h1 h3).trans (k3 k j h1 h2)
      have n : nm_N σ5 ↔ why = 0 ∧ m ≠ -1 := by
        unfold nm_N
        rw [v7, c0, c3]
        exact ⟨fun z => ⟨z.2.1, z.2.2⟩, fun z => ⟨rfl, z.1, z.2⟩⟩
      have l : ∀ b : Nat, lv σ5 b ↔ lv σ b := fun b => by
        unfold lv
        rw [ot 18 16 (by decide) (by decide) (by decide), ot 33 16 (by decide) (by decide) (by decide)]
      have st : ∀ b : Nat, lv σ b → σ5 b 12 = σ b 12 ∧ σ5 b 13 = σ b 13 ∧ σ5 b 15 = σ b 15 := fun b hb => by
        rcases lv_b hb with rfl | rfl | rfl
        · exact ⟨ot 3 12 (by decide) (by decide) (by decide), ot 3 13 (by decide) (by decide) (by decide), ot 3 15 (by decide) (by decide) (by decide)⟩
        · exact ⟨ot 18 12 (by decide) (by decide) (by decide), ot 18 13 (by decide) (by decide) (by decide), ot 18 15 (by decide) (by decide) (by decide)⟩
        · exact ⟨ot 33 12 (by decide) (by decide) (by decide), ot 33 13 (by decide) (by decide) (by decide), ot 33 15 (by decide) (by decide) (by decide)⟩
      have rr : ∀ b : Nat, rsv σ5 b = rsv σ b := fun b => by
        unfold rsv
        rw [ot 95 4 (by decide) (by decide) (by decide), ot 97 4 (by decide) (by decide) (by decide), ot 97 478 (by decide) (by decide) (by decide)]
      have e17 := ot 0 17 (by decide) (by decide) (by decide)
      refine ⟨Or.inl ⟨v7, fun w hw => ?_⟩, ⟨fun z => ?_, fun z => ?_⟩, ⟨?_, fun b hb => ?_⟩, fun z b hb q => ?_, fun b b' hb hb' q => ?_⟩
      · rcases (show w = 0 ∨ w = 1 ∨ w = 2 ∨ w = 3 ∨ w = 4 by omega) with rfl | rfl | rfl | rfl | rfl
        · rw [c0, m0]
        · rw [c1, m1]
        · rw [c2, m2]
        · rw [c3, m3]
        · rw [c4, m4]
      · have z := n.mp z
        have hb := C3 z.2
        have hd := C2 hb
        rw [v51, if_pos z, v52, v5, v6, c1, c2, e17]
        exact ⟨rfl, rfl, ⟨hc.1, hd⟩, ⟨by omega, by omega⟩, s3.2⟩
      · rw [v51, if_neg (fun y => z (n.mpr y))]
      · rw [e17, ot 93 23 (by decide) (by decide) (by decide)]
        exact g3.1
      · have hb := (l b).mp hb
        rw [(st b hb).2.2, rr b, e17]
        exact g3.2 b hb
      · have hb := (l b).mp hb
        rw [(st b hb).2.2, v6] at q
        have g := g5 b 3 hb (lv_3 σ) q
        rw [(st b hb).1, (st b hb).2.1, v5, c2, g.1, g.2, show σ 3 12 = A 49 12 from hN.2.2.2.1, show σ 3 13 = A 49 13 from hN.2.2.2.2.1]
        exact ⟨hc.2, C1⟩
      · have hb := (l b).mp hb
        have hb' := (l b').mp hb'
        rw [(st b hb).2.2, (st b' hb').2.2] at q
        rw [(st b hb).1, (st b hb).2.1, (st b' hb').1, (st b' hb').2.1]
        exact g5 b b' hb hb' q

theorem rs_3 (σ : ab_SG) : rsv σ 3 = σ 95 4 := if_pos rfl
theorem rs_18 (σ : ab_SG) : rsv σ 18 = σ 97 4 := (if_neg (by decide)).trans (if_pos rfl)
theorem rs_33 (σ : ab_SG) : rsv σ 33 = σ 97 478 := (if_neg (by decide)).trans (if_neg (by decide))
theorem lv_18 {σ : ab_SG} (h : lv σ 18) : σ 18 16 = 1 := by
  rcases h with h | ⟨-, h⟩ | ⟨h, -⟩
  · omega
  · exact h
  · omega
theorem lv_33 {σ : ab_SG} (h : lv σ 33) : σ 33 16 = 1 := by
  rcases h with h | ⟨h, -⟩ | ⟨-, h⟩
  · omega
  · omega
  · exact h
def xs_s (k : Nat) : Bool := k.beq 3 || (k.beq 18 || (k.beq 33 || (k.beq 95 || k.beq 97)))
/-- each live studio is one that was live -/
theorem EX_mp {σ σ' : ab_SG} (m : ∀ k j : Nat, (k, j) ∈ xs_L → xs_s k = false → σ' k j = σ k j) (s : ∀ b : Nat, lv σ' b → ∃ c : Nat, lv σ c ∧ σ' b 12 = σ c 12 ∧ σ' b 13 = σ c 13 ∧ σ' b 15 = σ c 15 ∧ rsv σ' b = rsv σ c) (hE : EX σ) : EX σ' := by
  have e7 := m 69 7 (by decide) (by decide)
  have e6 := m 69 6 (by decide) (by decide)
  have e5 := m 69 5 (by decide) (by decide)
  have f : ∀ w : Nat, w < 5 → σ' 72 w = σ 72 w ∧ σ' 117 w = σ 117 w := by
    intro w hw
    rcases (show w = 0 ∨ w = 1 ∨ w = 2 ∨ w = 3 ∨ w = 4 by omega) with rfl | rfl | rfl | rfl | rfl
    · exact ⟨m 72 0 (by decide) (by decide), m 117 0 (by decide) (by decide)⟩
    · exact ⟨m 72 1 (by decide) (by decide), m 117 1 (by decide) (by decide)⟩
    · exact ⟨m 72 2 (by decide) (by decide), m 117 2 (by decide) (by decide)⟩
    · exact ⟨m 72 3 (by decide) (by decide), m 117 3 (by decide) (by decide)⟩
    · exact ⟨m 72 4 (by decide) (by decide), m 117 4 (by decide) (by decide)⟩
  have n : nm_N σ' ↔ nm_N σ := by
    unfold nm_N
    rw [e7, (f 0 (by decide)).1, (f 3 (by decide)).1]
  obtain ⟨h1, h2, h3, h4, h5⟩ := hE
  refine ⟨?_, ⟨fun z => ?_, fun z => ?_⟩, ⟨?_, fun b hb => ?_⟩, fun z b hb q => ?_, fun b b' hb hb' q => ?_⟩
  · rcases h1 with ⟨a, b⟩ | a
    · exact Or.inl ⟨e7.trans a, fun w hw => by rw [(f w hw).1, (f w hw).2, b w hw]⟩
    · exact Or.inr (e7.trans a)
  · rw [m 93 51 (by decide) (by decide), m 93 52 (by decide) (by decide), e6, e5, (f 1 (by decide)).1, (f 2 (by decide)).1, m 0 17 (by decide) (by decide)]
    exact h2.1 (n.mp z)
  · rw [m 93 51 (by decide) (by decide)]
    exact h2.2 (fun y => z (n.mpr y))
  · rw [m 0 17 (by decide) (by decide), m 93 23 (by decide) (by decide)]
    exact h3.1
  · obtain ⟨c, hc, a1, a2, a3, a4⟩ := s b hb
    rw [a3, a4, m 0 17 (by decide) (by decide)]
    exact h3.2 c hc
  · obtain ⟨c, hc, a1, a2, a3, a4⟩ := s b hb
    rw [a1, a2, e5, (f 2 (by decide)).1]
    exact h4 (n.mp z) c hc (a3.symm.trans (q.trans e6))
  · obtain ⟨c, hc, a1, a2, a3, a4⟩ := s b hb
    obtain ⟨c', hc', b1, b2, b3, b4⟩ := s b' hb'
    rw [a1, a2, b1, b2]
    exact h5 c c' hc hc' (a3.symm.trans (q.trans b3))
def kp_M : ab_ML := [(97, 1000000), (101, 1000000), (102, 1000000)]
def tb_M : ab_ML := [(93, 0), (93, 24), (95, 1000000), (99, 1000000)]
theorem xs_lm : xs_b lm_M = true := by decide +kernel
theorem xs_u0 : xs_b [(93, 0)] = true := by decide +kernel
theorem xs_i18 : xs_L.all (fun q => xs_s q.1 || ((mk_b (im_M 18) q.1 q.2 && mk_b lm_M q.1 q.2) && mk_b kp_M q.1 q.2)) = true := by decide +kernel
theorem EX_im18 {σ σ1 σm σ2 σ5 : ab_SG} {t1 : ab_SG} (hE : EX σ) (hn : ∀ k j : Nat, xs k j → fw_c (σ k j) = σ k j) (hn3 : ∀ k j : Nat, xs k j → fw_c (σm k j) = σm k j) (g2 : ab_okM (im_M 18) σ σ1) (g3 : cy_is σ σ1 3 18) (g4 : σ1 18 16 = 1) (x3 : ∀ k j : Nat, xs k j → σm k j = fw_c (σ1 k j)) (q1 : ab_okM lm_M σm t1) (q3 : kp_is t1 σ2 0) (x5 : ∀ k j : Nat, xs k j → σ5 k j = fw_c (σ2 k j)) : EX σ5 := by
  obtain ⟨-, -, -, -, -, -, -, -, -, -, -, -, c12, c13, -, c15⟩ := g3
  have q30 : ab_okM kp_M t1 σ2 := q3.1
  have y : ∀ k j : Nat, (k, j) ∈ xs_L → mk_b lm_M k j = true → mk_b kp_M k j = true → σ5 k j = fw_c (σ1 k j) := fun k j h1 h3 h4 => by rw [x5 k j h1, mk_at q30 h4, mk_at q1 h3, hn3 k j h1, x3 k j h1]
  have p : ∀ k j : Nat, (k, j) ∈ xs_L → mk_b (im_M 18) k j = true → fw_c (σ1 k j) = σ k j := fun k j h1 h2 => by rw [mk_at g2 h2, hn k j h1]
  have u : ∀ k j : Nat, (k, j) ∈ xs_L → mk_b (im_M 18) k j = true → mk_b lm_M k j = true → mk_b kp_M k j = true → σ5 k j = σ k j := fun k j h1 h2 h3 h4 => (y k j h1 h3 h4).trans (p k j h1 h2)
  have v12 : σ5 18 12 = σ 3 12 := by rw [y 18 12 (by decide) (by decide) (by decide), c12, fw_c_c, hn 3 12 (by decide)]
  have v13 : σ5 18 13 = σ 3 13 := by rw [y 18 13 (by decide) (by decide) (by decide), c13, fw_c_c, hn 3 13 (by decide)]
  have v15 : σ5 18 15 = σ 3 15 := by rw [y 18 15 (by decide) (by decide) (by decide), c15, fw_c_c, hn 3 15 (by decide)]
  have w95 : t1 95 4 = σ 95 4 := by rw [mk_at q1 (k := 95) (j := 4) (by decide), x3 95 4 (by decide), p 95 4 (by decide) (by decide)]
  have w97 : t1 97 478 = σ 97 478 := by rw [mk_at q1 (k := 97) (j := 478) (by decide), x3 97 478 (by decide), p 97 478 (by decide) (by decide)]
  have z1 : σ2 97 4 = fw_c (t1 95 4) := q3.2.1 4 (by decide)
  have z2 : σ2 97 478 = t1 97 478 := q3.2.2.2.1 478 (by decide)
  have v97 : σ5 97 4 = σ 95 4 := by rw [x5 97 4 (by decide), z1, fw_c_c, w95, hn 95 4 (by decide)]
  have o97 : σ5 97 478 = σ 97 478 := by rw [x5 97 478 (by decide), z2, w97, hn 97 478 (by decide)]
  refine EX_mp (fun k j h n => ?_) (fun b hb => ?_) hE
  · have t : (xs_s k || ((mk_b (im_M 18) k j && mk_b lm_M k j) && mk_b kp_M k j)) = true := List.all_eq_true.mp xs_i18 (k, j) h
    rw [n, Bool.false_or, Bool.and_eq_true, Bool.and_eq_true] at t
    exact u k j h t.1.1 t.1.2 t.2
  · have a3 : ∃ c : Nat, lv σ c ∧ σ5 3 12 = σ c 12 ∧ σ5 3 13 = σ c 13 ∧ σ5 3 15 = σ c 15 ∧ rsv σ5 3 = rsv σ c := ⟨3, lv_3 σ, u 3 12 (by decide) (by decide) (by decide) (by decide), u 3 13 (by decide) (by decide) (by decide) (by decide), u 3 15 (by decide) (by decide) (by decide) (by decide), by rw [rs_3, rs_3, u 95 4 (by decide) (by decide) (by decide) (by decide)]⟩
    have aB : ∃ c : Nat, lv σ c ∧ σ5 18 12 = σ c 12 ∧ σ5 18 13 = σ c 13 ∧ σ5 18 15 = σ c 15 ∧ rsv σ5 18 = rsv σ c := ⟨3, lv_3 σ, v12, v13, v15, by rw [rs_18, rs_3, v97]⟩
    have aO : lv σ5 33 → ∃ c : Nat, lv σ c ∧ σ5 33 12 = σ c 12 ∧ σ5 33 13 = σ c 13 ∧ σ5 33 15 = σ c 15 ∧ rsv σ5 33 = rsv σ c := fun z => ⟨33, Or.inr (Or.inr ⟨rfl, (u 33 16 (by decide) (by decide) (by decide) (by decide)).symm.trans (lv_33 z)⟩), u 33 12 (by decide) (by decide) (by decide) (by decide), u 33 13 (by decide) (by decide) (by decide) (by decide), u 33 15 (by decide) (by decide) (by decide) (by decide), by rw [rs_33, rs_33, o97]⟩
    rcases lv_b hb with rfl | rfl | rfl
    · exact a3
    · exact aB
    · exact aO hb
theorem xs_i33 : xs_L.all (fun q => xs_s q.1 || ((mk_b (im_M 33) q.1 q.2 && mk_b lm_M q.1 q.2) && mk_b kp_M q.1 q.2)) = true := by decide +kernel
theorem EX_im33 {σ σ1 σm σ2 σ5 : ab_SG} {t1 : ab_SG} (hE : EX σ) (hn : ∀ k j : Nat, xs k j → fw_c (σ k j) = σ k j) (hn3 : ∀ k j : Nat, xs k j → fw_c (σm k j) = σm k j) (g2 : ab_okM (im_M 33) σ σ1) (g3 : cy_is σ σ1 3 33) (g4 : σ1 33 16 = 1) (x3 : ∀ k j : Nat, xs k j → σm k j = fw_c (σ1 k j)) (q1 : ab_okM lm_M σm t1) (q3 : kp_is t1 σ2 1) (x5 : ∀ k j : Nat, xs k j → σ5 k j = fw_c (σ2 k j)) : EX σ5 := by
  obtain ⟨-, -, -, -, -, -, -, -, -, -, -, -, c12, c13, -, c15⟩ := g3
  have q30 : ab_okM kp_M t1 σ2 := q3.1
  have y : ∀ k j : Nat, (k, j) ∈ xs_L → mk_b lm_M k j = true → mk_b kp_M k j = true → σ5 k j = fw_c (σ1 k j) := fun k j h1 h3 h4 => by rw [x5 k j h1, mk_at q30 h4, mk_at q1 h3, hn3 k j h1, x3 k j h1]
  have p : ∀ k j : Nat, (k, j) ∈ xs_L → mk_b (im_M 33) k j = true → fw_c (σ1 k j) = σ k j := fun k j h1 h2 => by rw [mk_at g2 h2, hn k j h1]
  have u : ∀ k j : Nat, (k, j) ∈ xs_L → mk_b (im_M 33) k j = true → mk_b lm_M k j = true → mk_b kp_M k j = true → σ5 k j = σ k j := fun k j h1 h2 h3 h4 => (y k j h1 h3 h4).trans (p k j h1 h2)
  have v12 : σ5 33 12 = σ 3 12 := by rw [y 33 12 (by decide) (by decide) (by decide), c12, fw_c_c, hn 3 12 (by decide)]
  have v13 : σ5 33 13 = σ 3 13 := by rw [y 33 13 (by decide) (by decide) (by decide), c13, fw_c_c, hn 3 13 (by decide)]
  have v15 : σ5 33 15 = σ 3 15 := by rw [y 33 15 (by decide) (by decide) (by decide), c15, fw_c_c, hn 3 15 (by decide)]
  have w95 : t1 95 4 = σ 95 4 := by rw [mk_at q1 (k := 95) (j := 4) (by decide), x3 95 4 (by decide), p 95 4 (by decide) (by decide)]
  have w97 : t1 97 4 = σ 97 4 := by rw [mk_at q1 (k := 97) (j := 4) (by decide), x3 97 4 (by decide), p 97 4 (by decide) (by decide)]
  have z1 : σ2 97 478 = fw_c (t1 95 4) := q3.2.1 4 (by decide)
  have z2 : σ2 97 4 = t1 97 4 := q3.2.2.2.1 4 (by decide)
  have v97 : σ5 97 478 = σ 95 4 := by rw [x5 97 478 (by decide), z1, fw_c_c, w95, hn 95 4 (by decide)]
  have o97 : σ5 97 4 = σ 97 4 := by rw [x5 97 4 (by decide), z2, w97, hn 97 4 (by decide)]
  refine EX_mp (fun k j h n => ?_) (fun b hb => ?_) hE
  · have t : (xs_s k || ((mk_b (im_M 33) k j && mk_b lm_M k j) && mk_b kp_M k j)) = true := List.all_eq_true.mp xs_i33 (k, j) h
    rw [n, Bool.false_or, Bool.and_eq_true, Bool.and_eq_true] at t
    exact u k j h t.1.1 t.1.2 t.2
  · have a3 : ∃ c : Nat, lv σ c ∧ σ5 3 12 = σ c 12 ∧ σ5 3 13 = σ c 13 ∧ σ5 3 15 = σ c 15 ∧ rsv σ5 3 = rsv σ c := ⟨3, lv_3 σ, u 3 12 (by decide) (by decide) (by decide) (by decide), u 3 13 (by decide) (by decide) (by decide) (by decide), u 3 15 (by decide) (by decide) (by decide) (by decide), by rw [rs_3, rs_3, u 95 4 (by decide) (by decide) (by decide) (by decide)]⟩
    have aB : ∃ c : Nat, lv σ c ∧ σ5 33 12 = σ c 12 ∧ σ5 33 13 = σ c 13 ∧ σ5 33 15 = σ c 15 ∧ rsv σ5 33 = rsv σ c := ⟨3, lv_3 σ, v12, v13, v15, by rw [rs_33, rs_3, v97]⟩
    have aO : lv σ5 18 → ∃ c : Nat, lv σ c ∧ σ5 18 12 = σ c 12 ∧ σ5 18 13 = σ c 13 ∧ σ5 18 15 = σ c 15 ∧ rsv σ5 18 = rsv σ c := fun z => ⟨18, Or.inr (Or.inl ⟨rfl, (u 18 16 (by decide) (by decide) (by decide) (by decide)).symm.trans (lv_18 z)⟩), u 18 12 (by decide) (by decide) (by decide) (by decide), u 18 13 (by decide) (by decide) (by decide) (by decide), u 18 15 (by decide) (by decide) (by decide) (by decide), by rw [rs_18, rs_18, o97]⟩
    rcases lv_b hb with rfl | rfl | rfl
    · exact a3
    · exact aO hb
    · exact aB
theorem EX_im {k : Int} {σ σ1 σm σ2 σ5 : ab_SG} (hE : EX σ) (hn : ∀ k j : Nat, xs k j → fw_c (σ k j) = σ k j) (hn3 : ∀ k j : Nat, xs k j → fw_c (σm k j) = σm k j) (c : k_image k σ σ1) (x3 : ∀ k j : Nat, xs k j → σm k j = fw_c (σ1 k j)) (r : km_image k σm σ2) (x5 : ∀ k j : Nat, xs k j → σ5 k j = fw_c (σ2 k j)) : EX σ5 := by
  rcases c with ⟨a, b, h⟩ | ⟨a, g2, g3, g4⟩ | ⟨a, g2, g3, g4⟩
  · rcases r with ⟨-, -, q2, -⟩ | ⟨q, t1, hq, hk, -⟩
    · refine EX_cg (fun i j hs => ?_) hE
      rw [x5 i j hs, xs_ok q2 xs_lm hs, hn3 i j hs, x3 i j hs, h, hn i j hs]
    · rcases q_of hq hk with ⟨z, -⟩ | ⟨z, -⟩
      · exact absurd z a
      · exact absurd z b
  · rcases r with ⟨z, -⟩ | ⟨q, t1, hq, hk, q1, -, q3⟩
    · exact absurd a z
    · rcases q_of hq hk with ⟨-, rfl⟩ | ⟨z, -⟩
      · exact EX_im18 hE hn hn3 g2 g3 g4 x3 q1 q3 x5
      · omega
  · rcases r with ⟨-, z, -⟩ | ⟨q, t1, hq, hk, q1, -, q3⟩
    · exact absurd a z
    · rcases q_of hq hk with ⟨z, -⟩ | ⟨-, rfl⟩
      · omega
      · exact EX_im33 hE hn hn3 g2 g3 g4 x3 q1 q3 x5
theorem xs_re : xs_L.all (fun q => xs_s q.1 || (mk_b re_M q.1 q.2 && mk_b tb_M q.1 q.2)) = true := by decide +kernel
theorem EX_rs18 {σ σ1 σm σ2 σ5 : ab_SG} (hE : EX σ) (hn : ∀ k j : Nat, xs k j → fw_c (σ k j) = σ k j) (hn3 : ∀ k j : Nat, xs k j → fw_c (σm k j) = σm k j) (gB : σ 18 16 = 1) (g2 : ab_okM re_M σ σ1) (g3 : cy_is σ σ1 18 3) (x3 : ∀ k j : Nat, xs k j → σm k j = fw_c (σ1 k j)) (q3 : tb_is σm σ2 0) (x5 : ∀ k j : Nat, xs k j → σ5 k j = fw_c (σ2 k j)) : EX σ5 := by
  obtain ⟨-, -, -, -, -, -, -, -, -, -, -, -, c12, c13, -, c15⟩ := g3
  have q30 : ab_okM tb_M σm σ2 := q3.1
  have y : ∀ k j : Nat, (k, j) ∈ xs_L → mk_b tb_M k j = true → σ5 k j = fw_c (σ1 k j) := fun k j h1 h4 => by rw [x5 k j h1, mk_at q30 h4, hn3 k j h1, x3 k j h1]
  have p : ∀ k j : Nat, (k, j) ∈ xs_L → mk_b re_M k j = true → fw_c (σ1 k j) = σ k j := fun k j h1 h2 => by rw [mk_at g2 h2, hn k j h1]
  have u : ∀ k j : Nat, (k, j) ∈ xs_L → mk_b re_M k j = true → mk_b tb_M k j = true → σ5 k j = σ k j := fun k j h1 h2 h4 => (y k j h1 h4).trans (p k j h1 h2)
  have v12 : σ5 3 12 = σ 18 12 := by rw [y 3 12 (by decide) (by decide), c12, fw_c_c, hn 18 12 (by decide)]
  have v13 : σ5 3 13 = σ 18 13 := by rw [y 3 13 (by decide) (by decide), c13, fw_c_c, hn 18 13 (by decide)]
  have v15 : σ5 3 15 = σ 18 15 := by rw [y 3 15 (by decide) (by decide), c15, fw_c_c, hn 18 15 (by decide)]
  have z1 : σ2 95 4 = fw_c (σm 97 4) := q3.2.1 4 (by decide)
  have v95 : σ5 95 4 = σ 97 4 := by rw [x5 95 4 (by decide), z1, fw_c_c, hn3 97 4 (by decide), x3 97 4 (by decide), p 97 4 (by decide) (by decide)]
  refine EX_mp (fun k j h n => ?_) (fun b hb => ?_) hE
  · have t : (xs_s k || (mk_b re_M k j && mk_b tb_M k j)) = true := List.all_eq_true.mp xs_re (k, j) h
    rw [n, Bool.false_or, Bool.and_eq_true] at t
    exact u k j h t.1 t.2
  · rcases lv_b hb with rfl | rfl | rfl
    · exact ⟨18, Or.inr (Or.inl ⟨rfl, gB⟩), v12, v13, v15, by rw [rs_3, rs_18, v95]⟩
    · exact ⟨18, Or.inr (Or.inl ⟨rfl, (u 18 16 (by decide) (by decide) (by decide)).symm.trans (lv_18 hb)⟩), u 18 12 (by decide) (by decide) (by decide), u 18 13 (by decide) (by decide) (by decide), u 18 15 (by decide) (by decide) (by decide), by rw [rs_18, rs_18, u 97 4 (by decide) (by decide) (by decide)]⟩
    · exact ⟨33, Or.inr (Or.inr ⟨rfl, (u 33 16 (by decide) (by decide) (by decide)).symm.trans (lv_33 hb)⟩), u 33 12 (by decide) (by decide) (by decide), u 33 13 (by decide) (by decide) (by decide), u 33 15 (by decide) (by decide) (by decide), by rw [rs_33, rs_33, u 97 478 (by decide) (by decide) (by decide)]⟩
theorem EX_rs33 {σ σ1 σm σ2 σ5 : ab_SG} (hE : EX σ) (hn : ∀ k j : Nat, xs k j → fw_c (σ k j) = σ k j) (hn3 : ∀ k j : Nat, xs k j → fw_c (σm k j) = σm k j) (gB : σ 33 16 = 1) (g2 : ab_okM re_M σ σ1) (g3 : cy_is σ σ1 33 3) (x3 : ∀ k j : Nat, xs k j → σm k j = fw_c (σ1 k j)) (q3 : tb_is σm σ2 1) (x5 : ∀ k j : Nat, xs k j → σ5 k j = fw_c (σ2 k j)) : EX σ5 := by
  obtain ⟨-, -, -, -, -, -, -, -, -, -, -, -, c12, c13, -, c15⟩ := g3
  have q30 : ab_okM tb_M σm σ2 := q3.1
  have y : ∀ k j : Nat, (k, j) ∈ xs_L → mk_b tb_M k j = true → σ5 k j = fw_c (σ1 k j) := fun k j h1 h4 => by rw [x5 k j h1, mk_at q30 h4, hn3 k j h1, x3 k j h1]
  have p : ∀ k j : Nat, (k, j) ∈ xs_L → mk_b re_M k j = true → fw_c (σ1 k j) = σ k j := fun k j h1 h2 => by rw [mk_at g2 h2, hn k j h1]
  have u : ∀ k j : Nat, (k, j) ∈ xs_L → mk_b re_M k j = true → mk_b tb_M k j = true → σ5 k j = σ k j := fun k j h1 h2 h4 => (y k j h1 h4).trans (p k j h1 h2)
  have v12 : σ5 3 12 = σ 33 12 := by rw [y 3 12 (by decide) (by decide), c12, fw_c_c, hn 33 12 (by decide)]
  have v13 : σ5 3 13 = σ 33 13 := by rw [y 3 13 (by decide) (by decide), c13, fw_c_c, hn 33 13 (by decide)]
  have v15 : σ5 3 15 = σ 33 15 := by rw [y 3 15 (by decide) (by decide), c15, fw_c_c, hn 33 15 (by decide)]
  have z1 : σ2 95 4 = fw_c (σm 97 478) := q3.2.1 4 (by decide)
  have v95 : σ5 95 4 = σ 97 478 := by rw [x5 95 4 (by decide), z1, fw_c_c, hn3 97 478 (by decide), x3 97 478 (by decide), p 97 478 (by decide) (by decide)]
  refine EX_mp (fun k j h n => ?_) (fun b hb => ?_) hE
  · have t : (xs_s k || (mk_b re_M k j && mk_b tb_M k j)) = true := List.all_eq_true.mp xs_re (k, j) h
    rw [n, Bool.false_or, Bool.and_eq_true] at t
    exact u k j h t.1 t.2
  · rcases lv_b hb with rfl | rfl | rfl
    · exact ⟨33, Or.inr (Or.inr ⟨rfl, gB⟩), v12, v13, v15, by rw [rs_3, rs_33, v95]⟩
    · exact ⟨18, Or.inr (Or.inl ⟨rfl, (u 18 16 (by decide) (by decide) (by decide)).symm.trans (lv_18 hb)⟩), u 18 12 (by decide) (by decide) (by decide), u 18 13 (by decide) (by decide) (by decide), u 18 15 (by decide) (by decide) (by decide), by rw [rs_18, rs_18, u 97 4 (by decide) (by decide) (by decide)]⟩
    · exact ⟨33, Or.inr (Or.inr ⟨rfl, (u 33 16 (by decide) (by decide) (by decide)).symm.trans (lv_33 hb)⟩), u 33 12 (by decide) (by decide) (by decide), u 33 13 (by decide) (by decide) (by decide), u 33 15 (by decide) (by decide) (by decide), by rw [rs_33, rs_33, u 97 478 (by decide) (by decide) (by decide)]⟩
theorem EX_rs {k : Int} {σ σ1 σm σ2 σ5 : ab_SG} (hE : EX σ) (hn : ∀ k j : Nat, xs k j → fw_c (σ k j) = σ k j) (hn3 : ∀ k j : Nat, xs k j → fw_c (σm k j) = σm k j) (hc : cN σ) (hR : RQ σ) (h1 : k_restore k σ σ1) (hv : vW σm σ1) (x3 : ∀ k j : Nat, xs k j → σm k j = fw_c (σ1 k j)) (h2 : km_restore k σm σ2) (x5 : ∀ k j : Nat, xs k j → σ5 k j = fw_c (σ2 k j)) : EX σ5 := by
  have e : ∀ r : Nat, r < 2 → σm 102 r = σ 102 r := fun r hr => mid_restore (cn_N hc) h1 (vw_W hv) (a := 102) (by decide) r (su102 hr)
  have f0 : σ 18 16 = σ 102 0 := hR.1.2.2.1.1
  have f1 : σ 33 16 = σ 102 1 := hR.1.2.2.2.1
  have e0 := e 0 (by decide)
  have e1 := e 1 (by decide)
  rcases h1 with ⟨a, h⟩ | ⟨a, b, g2, g3, -⟩ | ⟨a, b, g2, g3, -⟩
  · rcases h2 with ⟨-, h9⟩ | ⟨q, hq, hk, q1, -⟩
    · refine EX_cg (fun i j hs => ?_) hE
      have s2 : ab_okM [(93, 0)] σm σ2 := by
        rw [h9]
        exact okM_one
      rw [x5 i j hs, xs_ok s2 xs_u0 hs, hn3 i j hs, x3 i j hs, h, hn i j hs]
    · rcases q_of hq hk with ⟨z, rfl⟩ | ⟨z, rfl⟩
      · rcases a with a | a | a <;> omega
      · rcases a with a | a | a <;> omega
  · rcases h2 with ⟨q1 | ⟨q, hq, hk, q1⟩, -⟩ | ⟨q, hq, hk, q1, q2⟩
    · omega
    · rcases q_of hq hk with ⟨z, rfl⟩ | ⟨z, rfl⟩ <;> omega
    · rcases q_of hq hk with ⟨z, rfl⟩ | ⟨z, rfl⟩
      · exact EX_rs18 hE hn hn3 b g2 g3 x3 q2 x5
      · omega
  · rcases h2 with ⟨q1 | ⟨q, hq, hk, q1⟩, -⟩ | ⟨q, hq, hk, q1, q2⟩
    · omega
    · rcases q_of hq hk with ⟨z, rfl⟩ | ⟨z, rfl⟩ <;> omega
    · rcases q_of hq hk with ⟨z, rfl⟩ | ⟨z, rfl⟩
      · omega
      · exact EX_rs33 hE hn hn3 b g2 g3 x3 q2 x5
def xs_w (k j : Nat) : Bool := k.beq 3 || (k.beq 95 || ((k.beq 0 && j.beq 17) || (k.beq 93 && j.beq 23)))
theorem xs_nw : xs_L.all (fun q => xs_w q.1 q.2 || (mk_b ss_M q.1 q.2 && mk_b ms_M q.1 q.2)) = true := by decide +kernel
/-- a new studio: its number is no elder one's. the bound on 93 23 stands in the loop (dst, b4 of each turn) -/
theorem EX_nw {σ σ1 σm σ2 σ5 : ab_SG} {A A2 : ab_SG} (hE : EX σ) (hn : ∀ k j : Nat, xs k j → fw_c (σ k j) = σ k j) (hn3 : ∀ k j : Nat, xs k j → fw_c (σm k j) = σm k j) (hb : σ 93 23 ≤ 3577) (c : cs_ok σ σ1 A) (x3 : ∀ k j : Nat, xs k j → σm k j = fw_c (σ1 k j)) (r : ms_ok σm σ2 A2) (x5 : ∀ k j : Nat, xs k j → σ5 k j = fw_c (σ2 k j)) : EX σ5 := by
  obtain ⟨g2, -, -, -, -, -, c17, c15, -⟩ := c
  obtain ⟨q1, -, -, -, -, -, -, -, -, r23, r95⟩ := r
  have y : ∀ k j : Nat, (k, j) ∈ xs_L → mk_b ms_M k j = true → σ5 k j = fw_c (σ1 k j) := fun k j h1 h3 => by rw [x5 k j h1, mk_at q1 h3, hn3 k j h1, x3 k j h1]
  have p : ∀ k j : Nat, (k, j) ∈ xs_L → mk_b ss_M k j = true → fw_c (σ1 k j) = σ k j := fun k j h1 h2 => by rw [mk_at g2 h2, hn k j h1]
  have m : ∀ k j : Nat, (k, j) ∈ xs_L → xs_w k j = false → σ5 k j = σ k j := fun k j h n => by
    have t : (xs_w k j || (mk_b ss_M k j && mk_b ms_M k j)) = true := List.all_eq_true.mp xs_nw (k, j) h
    rw [n, Bool.false_or, Bool.and_eq_true] at t
    exact (y k j h t.2).trans (p k j h t.1)
  obtain ⟨h1, h2, h3, h4, h5⟩ := hE
  have s3 := h3.2 3 (lv_3 σ)
  have s17 := h3.1
  have ci : fw_c (σ 0 17 + 1) = σ 0 17 + 1 := fw_c_id (by omega) (by omega)
  have v17 : σ5 0 17 = σ 0 17 + 1 := by rw [y 0 17 (by decide) (by decide), c17, fw_c_c, ci]
  have v15 : σ5 3 15 = σ 0 17 + 1 := by rw [y 3 15 (by decide) (by decide), c15, fw_c_c, ci]
  have w23 : σm 93 23 = σ 0 17 := by rw [x3 93 23 (by decide), p 93 23 (by decide) (by decide), h3.1]
  have v23 : σ5 93 23 = σ 0 17 + 1 := by rw [x5 93 23 (by decide), r23, fw_c_c, w23, ci]
  have v95 : σ5 95 4 = σ 0 17 + 1 := by rw [x5 95 4 (by decide), r95, fw_c_c, w23, ci]
  have e7 := m 69 7 (by decide) (by decide)
  have e6 := m 69 6 (by decide) (by decide)
  have e5 := m 69 5 (by decide) (by decide)
  have f : ∀ w : Nat, w < 5 → σ5 72 w = σ 72 w ∧ σ5 117 w = σ 117 w := by
    intro w hw
    rcases (show w = 0 ∨ w = 1 ∨ w = 2 ∨ w = 3 ∨ w = 4 by omega) with rfl | rfl | rfl | rfl | rfl
    · exact ⟨m 72 0 (by decide) (by decide), m 117 0 (by decide) (by decide)⟩
    · exact ⟨m 72 1 (by decide) (by decide), m 117 1 (by decide) (by decide)⟩
    · exact ⟨m 72 2 (by decide) (by decide), m 117 2 (by decide) (by decide)⟩
    · exact ⟨m 72 3 (by decide) (by decide), m 117 3 (by decide) (by decide)⟩
    · exact ⟨m 72 4 (by decide) (by decide), m 117 4 (by decide) (by decide)⟩
  have n : nm_N σ5 ↔ nm_N σ := by
    unfold nm_N
    rw [e7, (f 0 (by decide)).1, (f 3 (by decide)).1]
  have s : ∀ b : Nat, lv σ5 b → b = 3 ∨ (lv σ b ∧ σ5 b 12 = σ b 12 ∧ σ5 b 13 = σ b 13 ∧ σ5 b 15 = σ b 15 ∧ rsv σ5 b = rsv σ b) := fun b hb => by
    rcases lv_b hb with rfl | rfl | rfl
    · exact Or.inl rfl
    · exact Or.inr ⟨Or.inr (Or.inl ⟨rfl, (m 18 16 (by decide) (by decide)).symm.trans (lv_18 hb)⟩), m 18 12 (by decide) (by decide), m 18 13 (by decide) (by decide), m 18 15 (by decide) (by decide), by rw [rs_18, rs_18, m 97 4 (by decide) (by decide)]⟩
    · exact Or.inr ⟨Or.inr (Or.inr ⟨rfl, (m 33 16 (by decide) (by decide)).symm.trans (lv_33 hb)⟩), m 33 12 (by decide) (by decide), m 33 13 (by decide) (by decide), m 33 15 (by decide) (by decide), by rw [rs_33, rs_33, m 97 478 (by decide) (by decide)]⟩
  refine ⟨?_, ⟨fun z => ?_, fun z => ?_⟩, ⟨?_, fun b hb => ?_⟩, fun z b hb q => ?_, fun b b' hb hb' q => ?_⟩
  · rcases h1 with ⟨a, b⟩ | a
    · exact Or.inl ⟨e7.trans a, fun w hw => by rw [(f w hw).1, (f w hw).2, b w hw]⟩
    · exact Or.inr (e7.trans a)
  · rw [m 93 51 (by decide) (by decide), m 93 52 (by decide) (by decide), e6, e5, (f 1 (by decide)).1, (f 2 (by decide)).1, v17]
    have t := h2.1 (n.mp z)
    exact ⟨t.1, t.2.1, t.2.2.1, t.2.2.2.1, t.2.2.2.2.1, by have := t.2.2.2.2.2; omega⟩
  · rw [m 93 51 (by decide) (by decide)]
    exact h2.2 (fun y => z (n.mpr y))
  · rw [v17, v23]
  · rcases s b hb with rfl | ⟨l, -, -, a3, a4⟩
    · rw [rs_3, v15, v95, v17]
      exact ⟨rfl, by omega, Int.le_refl _⟩
    · rw [a3, a4, v17]
      have t := h3.2 b l
      exact ⟨t.1, t.2.1, by have := t.2.2; omega⟩
  · have t := (h2.1 (n.mp z)).2.2.2.2.2
    rcases s b hb with rfl | ⟨l, a1, a2, a3, -⟩
    · rw [v15, e6] at q
      omega
    · rw [a1, a2, e5, (f 2 (by decide)).1]
      exact h4 (n.mp z) b l (a3.symm.trans (q.trans e6))
  · rcases s b hb with rfl | ⟨l, a1, a2, a3, -⟩
    · rcases s b' hb' with rfl | ⟨l', b1, b2, b3, -⟩
      · exact ⟨rfl, rfl⟩
      · have t := (h3.2 b' l').2.2
        rw [v15, b3] at q
        omega
    · rcases s b' hb' with rfl | ⟨l', b1, b2, b3, -⟩
      · have t := (h3.2 b l).2.2
        rw [v15, a3] at q
        omega
      · rw [a1, a2, b1, b2]
        exact h5 b b' l l' (a3.symm.trans (q.trans b3))
/-- all of it is kept -/
def kx (σ σ' : ab_SG) : Prop := ∀ k j : Nat, xs k j → σ' k j = σ k j
theorem xs_ne {a j m : Nat} (hs : xs a j) (hm : xs_L.all (fun q => !(q.1.beq m)) = true) : a ≠ m := by
  have t : (!(a.beq m)) = true := List.all_eq_true.mp hm (a, j) hs
  intro z
  rw [z, show m.beq m = true from Nat.beq_refl m] at t
  exact absurd t (by decide)
theorem xs_c95 : xs_L.all (fun q => !(q.1.beq 95) || q.2.beq 4) = true := by decide +kernel
theorem xs_95 {a j : Nat} (hs : xs a j) (h : a = 95) : j = 4 := by
  have t : (!(a.beq 95) || j.beq 4) = true := List.all_eq_true.mp xs_c95 (a, j) hs
  rw [h] at t
  have t2 : j.beq 4 = true := t
  exact Nat.eq_of_beq_eq_true t2
theorem xs_kj : xs_b kj_M = true := by decide +kernel
theorem xs_sn : xs_b sn_M = true := by decide +kernel
theorem xs_tk : xs_b tk_M = true := by decide +kernel
theorem xs_c9 : xs_b [(9, 1000000)] = true := by decide +kernel
theorem xs_n9 : xs_L.all (fun q => !(q.1.beq 9)) = true := by decide +kernel
theorem xs_n10 : xs_L.all (fun q => !(q.1.beq 10)) = true := by decide +kernel
theorem xs_n95 : xs_n [(95, 1000000)] = true := by decide +kernel
theorem xs_nun : xs_n un_M = true := by decide +kernel
theorem kx_of {σ σ' : ab_SG} (h : σ' = σ) : kx σ σ' := fun _ _ _ => by rw [h]
theorem kx_u0 {σ σ' : ab_SG} {x : Int} (h : σ' = ab_ups σ 93 0 x) : kx σ σ' := fun k j hs => by
  rw [h]
  exact xs_ok okM_one xs_u0 hs
theorem kx_tr {σ σ1 σ' : ab_SG} (h1 : kx σ σ1) (h2 : kx σ1 σ') : kx σ σ' := fun k j hs => (h2 k j hs).trans (h1 k j hs)
theorem kx_ce9 {σ σ' : ab_SG} {p q : Nat} {v : Int} (h : ce_is σ σ' p 9 q v) : kx σ σ' := by
  obtain ⟨σ1, h1, h2⟩ := h
  intro a j hs
  rw [h2, ab_ups_ne (fun z => xs_ne hs xs_n9 z.1), xs_ok h1.1 xs_kj hs]
theorem kx_ce10 {σ σ' : ab_SG} {p q : Nat} {v : Int} (h : ce_is σ σ' p 10 q v) : kx σ σ' := by
  obtain ⟨σ1, h1, h2⟩ := h
  intro a j hs
  rw [h2, ab_ups_ne (fun z => xs_ne hs xs_n10 z.1), xs_ok h1.1 xs_kj hs]
theorem kx_te {σ σ' : ab_SG} {q : Nat} {v : Int} (hq : 182 ≤ q) (h : te_is σ σ' q v) : kx σ σ' := by
  obtain ⟨σ1, h1, h2⟩ := h
  refine kx_tr (kx_u0 rfl) (kx_tr (fun a j hs => xs_ok h1.1 xs_sn hs) (fun a j hs => ?_))
  rw [h2, ab_ups_ne (fun z => by have := xs_95 hs z.1; omega)]
theorem kx_cw {σ σ' : ab_SG} {a b N : Nat} (ha : 182 ≤ a) (h : cw_is σ σ' 95 a b N) : kx σ σ' := by
  intro k j hs
  by_cases z : k = 95
  · have e := xs_95 hs z
    rw [z, e]
    exact h.2.1 4 (Or.inl (by omega))
  · exact xs_on h.1 xs_n95 hs z
theorem kx_teach {p x k v : Int} {σ σ' : ab_SG} (h : k_teach p x k v σ σ') : kx σ σ' := by
  rcases h with ⟨-, h, -⟩ | ⟨-, p', x', -, -, -, -, -, -, h⟩
  · exact kx_of h
  · exact kx_ce9 h
theorem kx_dares {p k v : Int} {σ σ' : ab_SG} (h : k_dares p k v σ σ') : kx σ σ' := by
  rcases h with ⟨-, h, -⟩ | ⟨-, p', -, -, -, -, h⟩
  · exact kx_of h
  · exact kx_ce10 h
theorem kx_copies {p q v : Int} {σ σ' : ab_SG} (h : k_copies p q v σ σ') : kx σ σ' := by
  rcases h with ⟨-, h, -⟩ | ⟨p', q', N, -, -, -, -, -, -, ⟨-, h⟩ | ⟨-, σ1, h1, h2⟩⟩
  · exact kx_of h
  · exact kx_of h
  · exact kx_tr (fun a j hs => xs_ok h1.1 xs_kj hs) (fun a j hs => xs_ok h2.1 xs_c9 hs)
theorem kx_undo {v : Int} {σ σ' : ab_SG} (h : k_undo v σ σ') : kx σ σ' := by
  rcases h with ⟨-, -, h⟩ | ⟨n, p, -, -, -, -, h⟩
  · exact kx_of h
  · exact fun a j hs => xs_ok h.1 xs_tk hs
theorem kxm_teach {p x k v : Int} {σ σ' : ab_SG} (h : km_teach p x k v σ σ') : kx σ σ' := by
  rcases h with ⟨-, h, -⟩ | ⟨-, p', x', -, -, -, -, -, -, h⟩
  · exact kx_u0 h
  · exact kx_te (by omega) h
theorem kxm_dares {p k v : Int} {σ σ' : ab_SG} (h : km_dares p k v σ σ') : kx σ σ' := by
  rcases h with ⟨-, h, -⟩ | ⟨-, p', -, -, -, -, h⟩
  · exact kx_u0 h
  · exact kx_te (by omega) h
theorem kxm_copies {p q v : Int} {σ σ' : ab_SG} (h : km_copies p q v σ σ') : kx σ σ' := by
  rcases h with ⟨-, h, -⟩ | ⟨p', q', N, -, -, -, -, -, -, ⟨-, h⟩ | ⟨-, σ1, h1, h2⟩⟩
  · exact kx_u0 h
  · exact kx_u0 h
  · exact kx_tr (kx_u0 rfl) (kx_tr (fun a j hs => xs_ok h1.1 xs_sn hs) (kx_cw (by omega) h2))
theorem kxm_undo {v : Int} {σ σ' : ab_SG} (h : km_undo v σ σ') : kx σ σ' := by
  rcases h with ⟨-, -, h⟩ | ⟨n, -, -, h1, -, h2, -⟩
  · exact kx_u0 h
  · intro k j hs
    by_cases z : k = 95
    · have e := xs_95 hs z
      rw [z, e]
      exact h2 4 (Or.inl (by omega))
    · exact xs_on h1 xs_nun hs z
theorem EX_mu {σ σ1 σm σ2 σ5 : ab_SG} (hE : EX σ) (hn : ∀ k j : Nat, xs k j → fw_c (σ k j) = σ k j) (hn3 : ∀ k j : Nat, xs k j → fw_c (σm k j) = σm k j) (c : kx σ σ1) (x3 : ∀ k j : Nat, xs k j → σm k j = fw_c (σ1 k j)) (r : kx σm σ2) (x5 : ∀ k j : Nat, xs k j → σ5 k j = fw_c (σ2 k j)) : EX σ5 := EX_cg (fun k j hs => by rw [x5 k j hs, r k j hs, hn3 k j hs, x3 k j hs, c k j hs, hn k j hs]) hE
theorem xs_sf : xs_b sf_M = true := by decide +kernel
theorem xs_mf : xs_b mf_M = true := by decide +kernel
theorem EX_sd {A : ab_SG} {σ σ1 σm σ2 σ5 : ab_SG} (hE : EX σ) (hn : ∀ k j : Nat, xs k j → fw_c (σ k j) = σ k j) (hn3 : ∀ k j : Nat, xs k j → fw_c (σm k j) = σm k j) (hb : σ 93 23 ≤ 3577) (hc : cN σ) (hR : RQ σ) (h1 : k_studio A σ σ1) (hv : vW σm σ1) (x3 : ∀ k j : Nat, xs k j → σm k j = fw_c (σ1 k j)) (h2 : km_studio A (tp_t σ) σm σ2) (x5 : ∀ k j : Nat, xs k j → σ5 k j = fw_c (σ2 k j)) : EX σ5 := by
  have e2 : σm 93 2 = σ 93 2 := mid_studio (cn_N hc) h1 (vw_W hv) (su93 (Or.inl rfl)) (by decide) (by decide)
  have r1 : σ 1 1 = σ 93 2 := hR.1.1.1
  obtain ⟨-, -, h1⟩ := h1
  unfold km_studio at h2
  rw [e2, ← r1] at h2
  rcases h1 with ⟨g1, g2, -⟩ | ⟨g1, g2⟩
  · rcases h2 with ⟨-, q2, -, -⟩ | ⟨q1, -⟩
    · exact EX_mu hE hn hn3 (fun k j hs => xs_ok g2 xs_sf hs) x3 (fun k j hs => xs_ok q2 xs_mf hs) x5
    · exact absurd q1 g1
  · rcases h2 with ⟨q1, -⟩ | ⟨-, q2⟩
    · exact absurd g1 q1
    · exact EX_nw hE hn hn3 hb g2 x3 q2 x5
theorem EX_tmb {σ σ3 A : ab_SG} (hE : EX σ) (h3 : ∀ k j : Nat, xs k j → σ3 k j = σ k j) (hn : ∀ k j : Nat, xs k j → fw_c (σ k j) = σ k j) (hN : NC σ A) : tm_b σ3 A := by
  have m : ∀ k j : Nat, (k, j) ∈ xs_L → σ3 k j = σ k j := h3
  have f : ∀ k j : Nat, (k, j) ∈ xs_L → fw_c (σ k j) = σ k j := hn
  refine ⟨⟨by rw [m 93 51 (by decide)]; exact f 93 51 (by decide), by rw [m 95 4 (by decide)]; exact f 95 4 (by decide)⟩, fun z => ?_⟩
  have z1 : σ 93 51 ≠ -1 := by
    rw [← m 93 51 (by decide)]
    exact z.1
  have z2 : σ 93 51 = σ 95 4 := by
    rw [← m 93 51 (by decide), ← m 95 4 (by decide)]
    exact z.2
  obtain ⟨g1, g2, g3, g4, -⟩ := hE
  have n : nm_N σ := Classical.byContradiction (fun y => z1 (g2.2 y))
  have k := g2.1 n
  have e : ∀ w : Nat, w < 5 → σ 72 w = σ 117 w := by
    rcases g1 with ⟨-, e⟩ | e
    · exact e
    · exact absurd (n.1.symm.trans e) (by decide)
  have s15 := (g3.2 3 (lv_3 σ)).1
  rw [rs_3] at s15
  have g := g4 n 3 (lv_3 σ) (by omega)
  rw [show σ 3 12 = A 49 12 from hN.2.2.2.1, show σ 3 13 = A 49 13 from hN.2.2.2.2.1] at g
  rw [m 117 2 (by decide), m 117 1 (by decide), m 93 52 (by decide), ← e 2 (by decide), ← e 1 (by decide), k.2.1]
  exact ⟨⟨k.2.2.1.2, g.2⟩, k.2.2.2.1, ⟨k.2.2.1.1, g.1⟩⟩
