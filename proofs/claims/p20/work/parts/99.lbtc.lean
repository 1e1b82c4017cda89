/-! the duel: values in row 79, moves in row 80, ten of either side -/
def atl_k (k n : Nat) : fw_SP := fun as σ K => ∃ x : Int, as = [(2, k, 0), (0, 0, x)] ∧ (0 ≤ fw_c x ∧ fw_c x < (n : Int) → K (some (1, 0, σ k (fw_c x).toNat)) σ) ∧ (¬ (0 ≤ fw_c x ∧ fw_c x < (n : Int)) → K (some (1, 0, 0)) σ)
theorem atl_gen {k n : Nat} (hn : n ≤ 1000) {K : fw_KR} {σ : ab_SG} {x : Int} {P : Prop}
    (s0 : (fw_c x < 0 → K (some (1, 0, ((0 : Nat) : Int))) σ) ∧ (0 ≤ fw_c x → (fw_c ((n : Nat) : Int) ≤ fw_c x → K (some (1, 0, ((0 : Nat) : Int))) σ) ∧ (fw_c x < fw_c ((n : Nat) : Int) → (0 ≤ fw_c x ∧ fw_c x < ((n : Nat) : Int)) ∧ (K (some (1, 0, σ k (fw_c x).toNat)) σ))) → P)
    (h1 : 0 ≤ fw_c x ∧ fw_c x < (n : Int) → K (some (1, 0, σ k (fw_c x).toNat)) σ) (h2 : ¬ (0 ≤ fw_c x ∧ fw_c x < (n : Int)) → K (some (1, 0, 0)) σ) : P := by
  have en : fw_c ((n : Nat) : Int) = ((n : Nat) : Int) := fw_c_id (by omega) (by omega)
  rw [en] at s0
  exact s0 ⟨fun q => h2 (by omega), fun q => ⟨fun q2 => h2 (by omega), fun q2 => ⟨⟨q, q2⟩, h1 ⟨q, q2⟩⟩⟩⟩
def dj_T : List (Nat × Nat) := [(78, 20), (79, 20), (76, 9)]
def sp_atj : fw_SP := sp_of atl_k dj_T
def sp_put78 : fw_SP := putl_k 78 20
def sp_put79 : fw_SP := putl_k 79 20
def sp_put80 : fw_SP := put_k 80 20
def sp_at80 : fw_SP := at_k 80 20
def dl_s (W : Int) (V : Nat → Int) : Nat → Int × Int → Int × Int
  | 0, st => st
  | b + 1, st => dl_s W V b (if st.1 < W - V (b + 1) then (W - V (b + 1), ((b + 1 : Nat) : Int)) else st)
theorem dl_ss (W : Int) (V : Nat → Int) (b : Nat) (v mv : Int) : dl_s W V (b + 1) (v, mv) = if v < W - V (b + 1) then dl_s W V b (W - V (b + 1), ((b + 1 : Nat) : Int)) else dl_s W V b (v, mv) := by
  show dl_s W V b (if v < W - V (b + 1) then (W - V (b + 1), ((b + 1 : Nat) : Int)) else (v, mv)) = _
  by_cases q : v < W - V (b + 1)
  · rw [if_pos q, if_pos q]
  · rw [if_neg q, if_neg q]
theorem dl_sc (W : Int) {V V' : Nat → Int} : ∀ (m : Nat) (v mv : Int), (∀ b : Nat, 1 ≤ b → b ≤ m → V b = V' b) → dl_s W V m (v, mv) = dl_s W V' m (v, mv)
  | 0, _, _, _ => rfl
  | m + 1, v, mv, h => by
    rw [dl_ss, dl_ss, h (m + 1) (by omega) (by omega), dl_sc W m (W - V' (m + 1)) ((m + 1 : Nat) : Int) (fun b h1 h2 => h b h1 (by omega)), dl_sc W m v mv (fun b h1 h2 => h b h1 (by omega))]
theorem dl_sz {V V' : Nat → Int} : ∀ (m : Nat) (v mv : Int), (∀ b : Nat, 1 ≤ b → b ≤ m → V' b = 2520 * V b) → dl_s 2460275073345600 V' m (2520 * v, mv) = (2520 * (dl_s 976299632280 V m (v, mv)).1, (dl_s 976299632280 V m (v, mv)).2)
  | 0, _, _, _ => rfl
  | m + 1, v, mv, h => by
    have e := h (m + 1) (by omega) (by omega)
    rw [dl_ss, dl_ss]
    by_cases q : v < 976299632280 - V (m + 1)
    · rw [if_pos q, if_pos (show 2520 * v < 2460275073345600 - V' (m + 1) by omega), show 2460275073345600 - V' (m + 1) = 2520 * (976299632280 - V (m + 1)) by omega]
      exact dl_sz m _ _ (fun b h1 h2 => h b h1 (by omega))
    · rw [if_neg q, if_neg (show ¬ 2520 * v < 2460275073345600 - V' (m + 1) by omega)]
      exact dl_sz m _ _ (fun b h1 h2 => h b h1 (by omega))
theorem dl_sb {V : Nat → Int} {lo : Int} (hl : lo ≤ 0) {T : Nat} : ∀ (m : Nat) (v mv : Int), (∀ b : Nat, 1 ≤ b → b ≤ m → 0 ≤ V b ∧ V b ≤ 976299632280) → (lo ≤ v ∧ v ≤ 976299632280) → (0 ≤ mv ∧ mv ≤ (T : Int)) → m ≤ T → (lo ≤ (dl_s 976299632280 V m (v, mv)).1 ∧ (dl_s 976299632280 V m (v, mv)).1 ≤ 976299632280) ∧ (0 ≤ (dl_s 976299632280 V m (v, mv)).2 ∧ (dl_s 976299632280 V m (v, mv)).2 ≤ (T : Int))
  | 0, _, _, _, h1, h2, _ => ⟨h1, h2⟩
  | m + 1, v, mv, h, h1, h2, h3 => by
    have e := h (m + 1) (by omega) (by omega)
    rw [dl_ss]
    by_cases q : v < 976299632280 - V (m + 1)
    · rw [if_pos q]
      exact dl_sb hl m _ _ (fun b g1 g2 => h b g1 (by omega)) ⟨by omega, by omega⟩ ⟨by omega, by omega⟩ (by omega)
    · rw [if_neg q]
      exact dl_sb hl m _ _ (fun b g1 g2 => h b g1 (by omega)) h1 h2 (by omega)
def dl_st (W : Int) (C : Nat → Int) (o n : Nat) : Int := if n = 0 then -1 else W - C (o + n)
/-- a side's value and move behind a bid of n, a bid of m at most open to her -/
def dl_r (W : Int) (C V : Nat → Int) (side n m : Nat) : Int × Int := dl_s W (fun b => V (10 - 10 * side + b)) m (dl_st W C (10 - 10 * side) n, 0)
def dl_put (f : Nat → Int) (i : Nat) (v : Int) : Nat → Int := fun j => if j = i then v else f j
theorem dl_put_eq (f : Nat → Int) (i : Nat) (v : Int) : dl_put f i v i = v := if_pos rfl
theorem dl_put_ne (f : Nat → Int) {i j : Nat} (v : Int) (h : j ≠ i) : dl_put f i v j = f j := if_neg h
def dl_1 (C : Nat → Int) (side n m : Nat) (st : (Nat → Int) × (Nat → Int)) : (Nat → Int) × (Nat → Int) := (dl_put st.1 (10 * side + n) (dl_r 976299632280 C st.1 side n m).1, dl_put st.2 (10 * side + n) (dl_r 976299632280 C st.1 side n m).2)
def dl_m (f : Nat) : Nat → Nat
  | 0 => f
  | n + 1 => n
def dl_n (C : Nat → Int) (f : Nat) : Nat → (Nat → Int) × (Nat → Int)
  | 0 => (fun _ => 0, fun _ => 0)
  | k + 1 => dl_1 C 1 ((k + 1) % 10) (dl_m f ((k + 1) % 10)) (dl_1 C 0 ((k + 1) % 10) (dl_m f ((k + 1) % 10)) (dl_n C f k))
theorem dl_nn (C : Nat → Int) (f : Nat) {k : Nat} (h : k < 9) : dl_n C f (k + 1) = dl_1 C 1 (k + 1) k (dl_1 C 0 (k + 1) k (dl_n C f k)) := by
  show dl_1 C 1 ((k + 1) % 10) (dl_m f ((k + 1) % 10)) (dl_1 C 0 ((k + 1) % 10) (dl_m f ((k + 1) % 10)) (dl_n C f k)) = _
  rw [Nat.mod_eq_of_lt (show k + 1 < 10 by omega)]
  rfl
theorem dl_nt (C : Nat → Int) (f : Nat) : dl_n C f (9 + 1) = dl_1 C 1 0 f (dl_1 C 0 0 f (dl_n C f 9)) := rfl
def dl_B (st : (Nat → Int) × (Nat → Int)) : Prop := ∀ i : Nat, (0 ≤ st.1 i ∧ st.1 i ≤ 976299632280) ∧ (0 ≤ st.2 i ∧ st.2 i ≤ 9) ∧ (1 ≤ i % 10 → st.2 i ≤ ((i % 10 : Nat) : Int) - 1)
def dl_C (C : Nat → Int) : Prop := ∀ i : Nat, i < 20 → 1 ≤ i % 10 → 0 ≤ C i ∧ C i ≤ 976299632280
theorem dl_rb {C V : Nat → Int} {side n m : Nat} (hs : side < 2) (hn : n < 10) (hz : n = 0 → 1 ≤ m) (hC : dl_C C) (hV : ∀ b : Nat, 1 ≤ b → b ≤ m → 0 ≤ V (10 - 10 * side + b) ∧ V (10 - 10 * side + b) ≤ 976299632280) : (0 ≤ (dl_r 976299632280 C V side n m).1 ∧ (dl_r 976299632280 C V side n m).1 ≤ 976299632280) ∧ (0 ≤ (dl_r 976299632280 C V side n m).2 ∧ (dl_r 976299632280 C V side n m).2 ≤ (m : Int)) := by
  unfold dl_r dl_st
  by_cases c : n = 0
  · rw [if_pos c]
    obtain ⟨m, rfl⟩ : ∃ k : Nat, m = k + 1 := ⟨m - 1, by have := hz c; omega⟩
    have e := hV (m + 1) (by omega) (by omega)
    rw [dl_ss, if_pos (show (-1 : Int) < 976299632280 - V (10 - 10 * side + (m + 1)) by omega)]
    exact dl_sb (Int.le_refl 0) m _ _ (fun b h1 h2 => hV b h1 (by omega)) ⟨by omega, by omega⟩ ⟨by omega, by omega⟩ (by omega)
  · rw [if_neg c]
    have e := hC (10 - 10 * side + n) (by omega) (by omega)
    exact dl_sb (Int.le_refl 0) m _ _ hV ⟨by omega, by omega⟩ ⟨Int.le_refl 0, by omega⟩ (Nat.le_refl m)
theorem dl_1b {C : Nat → Int} {st : (Nat → Int) × (Nat → Int)} {side n m : Nat} (hB : dl_B st) (hC : dl_C C) (hs : side < 2) (hn : n < 10) (hm : m < 10) (hz : n = 0 → 1 ≤ m) (hk : n ≠ 0 → m + 1 ≤ n) : dl_B (dl_1 C side n m st) := by
  have r := dl_rb (V := st.1) hs hn hz hC (fun b _ _ => (hB _).1)
  intro i
  show (0 ≤ dl_put _ _ _ i ∧ dl_put _ _ _ i ≤ 976299632280) ∧ (0 ≤ dl_put _ _ _ i ∧ dl_put _ _ _ i ≤ 9) ∧ (_ → dl_put _ _ _ i ≤ _)
  by_cases c : i = 10 * side + n
  · subst c
    rw [dl_put_eq, dl_put_eq]
    refine ⟨r.1, ⟨r.2.1, by omega⟩, fun q => ?_⟩
    have e : (10 * side + n) % 10 = n := by omega
    rw [e] at q ⊢
    have := hk (by omega)
    omega
  · rw [dl_put_ne _ _ c, dl_put_ne _ _ c]
    exact hB i
theorem dl_nb {C : Nat → Int} {f : Nat} (hC : dl_C C) (hf : 1 ≤ f ∧ f ≤ 9) : ∀ k : Nat, dl_B (dl_n C f k)
  | 0 => fun i => ⟨⟨Int.le_refl 0, show (0 : Int) ≤ 976299632280 by decide⟩, ⟨Int.le_refl 0, show (0 : Int) ≤ 9 by decide⟩, fun q => by show (0 : Int) ≤ _; omega⟩
  | k + 1 => by
    have b := dl_nb hC hf k
    have m : dl_m f ((k + 1) % 10) < 10 ∧ ((k + 1) % 10 = 0 → 1 ≤ dl_m f ((k + 1) % 10)) ∧ ((k + 1) % 10 ≠ 0 → dl_m f ((k + 1) % 10) + 1 ≤ (k + 1) % 10) := by
      have lt : (k + 1) % 10 < 10 := Nat.mod_lt _ (by decide)
      generalize (k + 1) % 10 = n at lt ⊢
      cases n with
      | zero => exact ⟨by show f < 10; omega, fun _ => hf.1, fun z => absurd rfl z⟩
      | succ n => exact ⟨by show n < 10; omega, fun z => absurd z (Nat.succ_ne_zero n), fun _ => Nat.le_refl _⟩
    have lt : (k + 1) % 10 < 10 := Nat.mod_lt _ (by decide)
    exact dl_1b (dl_1b b hC (by decide) lt m.1 m.2.1 m.2.2) hC (by decide) lt m.1 m.2.1 m.2.2
theorem dl_rc (W : Int) {C C' V V' : Nat → Int} {side n m : Nat} (hC : n ≠ 0 → C (10 - 10 * side + n) = C' (10 - 10 * side + n)) (hV : ∀ b : Nat, 1 ≤ b → b ≤ m → V (10 - 10 * side + b) = V' (10 - 10 * side + b)) : dl_r W C V side n m = dl_r W C' V' side n m := by
  unfold dl_r dl_st
  by_cases c : n = 0
  · rw [if_pos c, if_pos c]
    exact dl_sc W m _ _ hV
  · rw [if_neg c, if_neg c, hC c]
    exact dl_sc W m _ _ hV
theorem dl_rz {C C' V V' : Nat → Int} {side n m : Nat} (hz : n = 0 → 1 ≤ m) (hC : n ≠ 0 → C' (10 - 10 * side + n) = 2520 * C (10 - 10 * side + n)) (hV : ∀ b : Nat, 1 ≤ b → b ≤ m → V' (10 - 10 * side + b) = 2520 * V (10 - 10 * side + b)) (hb : ∀ b : Nat, 1 ≤ b → b ≤ m → 0 ≤ V (10 - 10 * side + b) ∧ V (10 - 10 * side + b) ≤ 976299632280) : dl_r 2460275073345600 C' V' side n m = (2520 * (dl_r 976299632280 C V side n m).1, (dl_r 976299632280 C V side n m).2) := by
  unfold dl_r dl_st
  by_cases c : n = 0
  · rw [if_pos c, if_pos c]
    obtain ⟨m, rfl⟩ : ∃ k : Nat, m = k + 1 := ⟨m - 1, by have := hz c; omega⟩
    have e := hV (m + 1) (by omega) (by omega)
    have e2 := hb (m + 1) (by omega) (by omega)
    rw [dl_ss, dl_ss, if_pos (show (-1 : Int) < 2460275073345600 - V' (10 - 10 * side + (m + 1)) by omega), if_pos (show (-1 : Int) < 976299632280 - V (10 - 10 * side + (m + 1)) by omega), show 2460275073345600 - V' (10 - 10 * side + (m + 1)) = 2520 * (976299632280 - V (10 - 10 * side + (m + 1))) by omega]
    exact dl_sz (V := fun b => V (10 - 10 * side + b)) m _ _ (fun b h1 h2 => hV b h1 (by omega))
  · rw [if_neg c, if_neg c, hC c, show 2460275073345600 - 2520 * C (10 - 10 * side + n) = 2520 * (976299632280 - C (10 - 10 * side + n)) by omega]
    exact dl_sz (V := fun b => V (10 - 10 * side + b)) m _ _ hV
theorem dl_nc {C C' : Nat → Int} {f : Nat} (h : ∀ i : Nat, i < 20 → 1 ≤ i % 10 → C i = C' i) : ∀ k : Nat, dl_n C f k = dl_n C' f k
  | 0 => rfl
  | k + 1 => by
    have one : ∀ (side n m : Nat) (st : (Nat → Int) × (Nat → Int)), side < 2 → n < 10 → dl_1 C side n m st = dl_1 C' side n m st := by
      intro side n m st hs hn
      unfold dl_1
      rw [dl_rc 976299632280 (C' := C') (V' := st.1) (fun c => h _ (by omega) (by omega)) (fun _ _ _ => rfl)]
    have lt : (k + 1) % 10 < 10 := Nat.mod_lt _ (by decide)
    show dl_1 C 1 _ _ (dl_1 C 0 _ _ (dl_n C f k)) = dl_1 C' 1 _ _ (dl_1 C' 0 _ _ (dl_n C' f k))
    rw [dl_nc h k, one 0 _ _ _ (by decide) lt, one 1 _ _ _ (by decide) lt]
/-- one side speaks: what it writes -/
def du_u (σ : ab_SG) (side n m : Nat) : ab_SG := ab_ups (ab_ups σ 79 (10 * side + n) (dl_r 976299632280 (σ 78) (σ 79) side n m).1) 80 (10 * side + n) (dl_r 976299632280 (σ 78) (σ 79) side n m).2
def du_B : ab_ML := [(79, 1000000), (80, 1000000)]
theorem du_uM {σ τ : ab_SG} (h : ab_okM du_B σ τ) (side n m : Nat) : ab_okM du_B σ (du_u τ side n m) := fw_okM_upa (fw_okM_upa h (by decide)) (by decide)
theorem du_B78 {σ τ : ab_SG} (h : ab_okM du_B σ τ) : τ 78 = σ 78 := funext fun j => h 78 j (fun q hq hh => by
  have : ∀ q ∈ du_B, q.1 ≠ 78 := by decide
  exact this q hq hh.1)
def du_A (S : Nat → Prop) (τ : ab_SG) (st : (Nat → Int) × (Nat → Int)) : Prop := ∀ i : Nat, S i → τ 79 i = st.1 i ∧ τ 80 i = st.2 i
theorem du_uA {S : Nat → Prop} {τ : ab_SG} {st : (Nat → Int) × (Nat → Int)} {C : Nat → Int} {side n m : Nat} (hA : du_A S τ st) (eC : τ 78 = C) (hr : ∀ b : Nat, 1 ≤ b → b ≤ m → S (10 - 10 * side + b)) : du_A (fun i => S i ∨ i = 10 * side + n) (du_u τ side n m) (dl_1 C side n m st) := by
  have e : dl_r 976299632280 (τ 78) (τ 79) side n m = dl_r 976299632280 C st.1 side n m := dl_rc _ (fun _ => by rw [eC]) (fun b h1 h2 => (hA _ (hr b h1 h2)).1)
  intro i hi
  unfold du_u
  rw [e]
  show _ = dl_put _ _ _ i ∧ _ = dl_put _ _ _ i
  rw [ab_ups_ne (fun z => absurd z.1 (by decide))]
  by_cases c : i = 10 * side + n
  · subst c
    rw [ab_ups_eq, ab_ups_eq, dl_put_eq, dl_put_eq]
    exact ⟨rfl, rfl⟩
  · have s := hA i (hi.resolve_right c)
    rw [ab_ups_ne (fun z => c z.2), ab_ups_ne (fun z => c z.2), ab_ups_ne (fun z => absurd z.1 (by decide)), dl_put_ne _ _ c, dl_put_ne _ _ c]
    exact s
def sp_speakBest : fw_SP := fun as σ K => ∃ (side n m : Nat) (a b c : Int), as = [(2, 77, 0), (0, 0, a), (0, 0, b), (0, 0, c)] ∧ (a = (side : Int) ∧ b = (n : Int) ∧ c = (m : Int)) ∧ (side < 2 ∧ n < 10 ∧ m < 10) ∧ (n ≠ 0 → 0 ≤ σ 78 (10 - 10 * side + n) ∧ σ 78 (10 - 10 * side + n) ≤ 976299632280) ∧ (∀ b : Nat, 1 ≤ b → b ≤ m → 0 ≤ σ 79 (10 - 10 * side + b) ∧ σ 79 (10 - 10 * side + b) ≤ 976299632280) ∧ K none (du_u σ side n m)
def sp_doBest : fw_SP := fun as σ K => ∃ f : Nat, as = [(2, 77, 0), (0, 0, (f : Int))] ∧ (1 ≤ f ∧ f ≤ 9) ∧ dl_C (σ 78) ∧ ∀ σ' : ab_SG, ab_okM du_B σ σ' → (∀ i : Nat, i < 20 → σ' 79 i = (dl_n (σ 78) f 10).1 i ∧ σ' 80 i = (dl_n (σ 78) f 10).2 i) → K none σ'
def sp_dvalue : fw_SP := fun as σ K => ∃ (side n : Nat) (a b : Int), as = [(2, 77, 0), (0, 0, a), (0, 0, b)] ∧ (a = (side : Int) ∧ b = (n : Int)) ∧ (side < 2 ∧ n < 10) ∧ K (some (1, 0, σ 79 (10 * side + n))) σ
def sp_dmove : fw_SP := fun as σ K => ∃ (side n : Nat) (a b : Int), as = [(2, 77, 0), (0, 0, a), (0, 0, b)] ∧ (a = (side : Int) ∧ b = (n : Int)) ∧ (side < 2 ∧ n < 10) ∧ K (some (0, 0, σ 80 (10 * side + n))) σ
/-- the odds of p and q, in the duel's order -/
def v_ch (A : ab_SG) (p q : Nat) (s : Int) : Nat → Int := fun i => if i < 10 then oz_odds A p (i : Int) s else oz_odds A q ((i - 10 : Nat) : Int) s
def du_H : ab_ML := [(73, 3), (74, 1000000), (75, 1000000), (78, 1000000)]
def du_M : ab_ML := [(73, 3), (74, 1000000), (75, 1000000), (78, 1000000), (79, 1000000), (80, 1000000)]
def sp_hear : fw_SP := fun as σ K => ∃ (A : ab_SG) (p q : Nat) (s : Int), as = [(2, 77, 0), (2, 3, 0), (2, 73, 0), (0, 0, (p : Int)), (0, 0, (q : Int)), (0, 0, s)] ∧ NC σ A ∧ p < 5 ∧ q < 5 ∧ (1 ≤ s ∧ s < 512) ∧ (∀ z : Nat, z < 9 → pr_hs s (z : Int) = true → (z : Int) < A 49 11) ∧ ∀ σ' : ab_SG, ab_okM du_H σ σ' → (∀ i : Nat, i < 20 → 1 ≤ i % 10 → σ' 78 i = v_ch A p q s i) → K none σ'
/-- a round is possible, and a bid of n behind it -/
abbrev v_bd (A : ab_SG) (p q n c : Int) : Prop := (0 ≤ p ∧ p < A 49 13) ∧ (0 ≤ q ∧ q < A 49 13) ∧ p ≠ q ∧ (0 ≤ n ∧ n ≤ 9) ∧ (0 ≤ c ∧ c < A 49 12)
def sp_canBid : fw_SP := fun as σ K => ∃ (A : ab_SG) (p q n c : Int), as = [(2, 0, 0), (0, 0, p), (0, 0, q), (0, 0, n), (0, 0, c)] ∧ (fw_c p = p ∧ fw_c q = q ∧ fw_c n = n ∧ fw_c c = c) ∧ NC σ A ∧ K (some (0, 0, fw_bo (v_bd A p q n c))) σ
def sp_m_isRound : fw_SP := fun as σ K => ∃ (A : ab_SG) (p q c : Int), as = [(2, 93, 0), (0, 0, p), (0, 0, q), (0, 0, c)] ∧ (fw_c p = p ∧ fw_c q = q ∧ fw_c c = c) ∧ NM σ A ∧ K (some (0, 0, fw_bo (v_bd A p q 0 c))) σ
def sp_m_isSpeech : fw_SP := fun as σ K => ∃ (A : ab_SG) (p q n c : Int), as = [(2, 93, 0), (0, 0, p), (0, 0, q), (0, 0, n), (0, 0, c)] ∧ (fw_c p = p ∧ fw_c q = q ∧ fw_c n = n ∧ fw_c c = c) ∧ NM σ A ∧ K (some (0, 0, fw_bo (v_bd A p q n c))) σ
/-- the duel of p and q at a clue: values, moves -/
def v_du (A : ab_SG) (p q c : Int) : (Nat → Int) × (Nat → Int) := dl_n (v_ch A p.toNat q.toNat (v_set A c)) (A 49 14).toNat 10
def sp_weigh : fw_SP := fun as σ K => ∃ (A : ab_SG) (p q c : Int), as = [(2, 0, 0), (0, 0, p), (0, 0, q), (0, 0, c)] ∧ NC σ A ∧ v_bd A p q 0 c ∧ ∀ σ' : ab_SG, ab_okM du_M σ σ' → (∀ i : Nat, i < 20 → σ' 79 i = (v_du A p q c).1 i ∧ σ' 80 i = (v_du A p q c).2 i) → K none σ'
def v_best (A : ab_SG) (p q n c : Int) : Int := if v_bd A p q n c then (v_du A p q c).2 n.toNat else -1
def v_fairV (a b : Int) : Int := if 976299632280 < 2 * a ∧ 976299632280 < 2 * (976299632280 - b) then 1 else if 2 * a < 976299632280 ∧ 2 * (976299632280 - b) < 976299632280 then -1 else 0
def v_fair (A : ab_SG) (p q c : Int) : Int := if v_bd A p q 0 c then v_fairV ((v_du A p q c).1 0) ((v_du A p q c).1 10) else -1
/-- the last bid of a round in which both do best -/
def lo_f (M : Nat → Int) : Nat → Nat → Nat → Int
  | 0, _, last => (last : Int)
  | f + 1, side, last => if M (10 * side + last) = 0 then (last : Int) else lo_f M f (1 - side) (M (10 * side + last)).toNat
theorem lo_s (M : Nat → Int) (f side last : Nat) : lo_f M (f + 1) side last = if M (10 * side + last) = 0 then (last : Int) else lo_f M f (1 - side) (M (10 * side + last)).toNat := rfl
def v_low (A : ab_SG) (p q c : Int) : Int := if v_bd A p q 0 c then lo_f (v_du A p q c).2 10 0 0 else -1
def sp_lastBid : fw_SP := fun as σ K => as = [(2, 77, 0)] ∧ (∀ i : Nat, i < 20 → (0 ≤ σ 80 i ∧ σ 80 i ≤ 9) ∧ (1 ≤ i % 10 → σ 80 i ≤ ((i % 10 : Nat) : Int) - 1)) ∧ K (some (0, 0, lo_f (σ 80) 10 0 0)) σ
def sp_best : fw_SP := fun as σ K => ∃ (A : ab_SG) (p q n c : Int), as = [(2, 0, 0), (0, 0, p), (0, 0, q), (0, 0, n), (0, 0, c)] ∧ (fw_c p = p ∧ fw_c q = q ∧ fw_c n = n ∧ fw_c c = c) ∧ NC σ A ∧ ∀ σ' : ab_SG, ab_okM du_M σ σ' → K (some (0, 0, v_best A p q n c)) σ'
def sp_fair : fw_SP := fun as σ K => ∃ (A : ab_SG) (p q c : Int), as = [(2, 0, 0), (0, 0, p), (0, 0, q), (0, 0, c)] ∧ (fw_c p = p ∧ fw_c q = q ∧ fw_c c = c) ∧ NC σ A ∧ ∀ σ' : ab_SG, ab_okM du_M σ σ' → K (some (0, 0, v_fair A p q c)) σ'
def sp_low : fw_SP := fun as σ K => ∃ (A : ab_SG) (p q c : Int), as = [(2, 0, 0), (0, 0, p), (0, 0, q), (0, 0, c)] ∧ (fw_c p = p ∧ fw_c q = q ∧ fw_c c = c) ∧ NC σ A ∧ ∀ σ' : ab_SG, ab_okM du_M σ σ' → K (some (0, 0, v_low A p q c)) σ'
theorem du_ch {A τ : ab_SG} {p : Nat} {n s : Int} (h4 : ∀ y : Nat, y < 9 → τ 74 y = if pr_hs 0 (y : Int) = true then 9 else A 55 (9 * p + y)) (h5 : ∀ x : Nat, x < 9 → τ 75 x = oz_grp A n s x) : oz_ch (τ 74) (τ 75) s = oz_odds A p n s := by
  unfold oz_odds oz_ch
  rw [oz_sm_congr (κ' := oz_kp A p) (γ' := oz_grp A n s) (fun y hy => by rw [h4 y hy, if_neg (by rw [hs_0 y hy]; exact Bool.false_ne_true)]; rfl) h5]
theorem du_78 {σ τ : ab_SG} (h : ab_okM oz_M σ τ) (j : Nat) : τ 78 j = σ 78 j := h 78 j (fun q hq hh => by
  have : ∀ q ∈ oz_M, q.1 ≠ 78 := by decide
  exact this q hq hh.1)
theorem v_chb {σ A : ab_SG} (hN : NC σ A) {p q : Nat} (hp : p < 5) (hq : q < 5) {s : Int} (hs : 1 ≤ s ∧ s < 512) : dl_C (v_ch A p q s) := fun i _ _ => by
  unfold v_ch
  split
  · exact oz_odds_b hN hp hs
  · exact oz_odds_b hN hq hs
abbrev fk_at78 : List fw_CR := []
abbrev st_at78 : fw_K → fw_KR → fw_K := fw_st vwCl nn_sh nn_kd fw_kv fw_wc (nn_KI1.map (fun x => x.1)) (nn_KJ1.map (fun x => x.1)) (nn_PF1.map (fun x => x.1)) (nn_PS1.map (fun x => x.1)) fk_at78 0 nn_dt87 2 2
theorem fs_at78_0 {G : fw_K} {R : fw_KR} (hG : fw_cls st_at78 R G) {x : Int} {σ : ab_SG} (h : (fw_c x < 0 → R (some (1, 0, ((0 : Nat) : Int))) σ) ∧ (0 ≤ fw_c x → (fw_c ((20 : Nat) : Int) ≤ fw_c x → R (some (1, 0, ((0 : Nat) : Int))) σ) ∧ (fw_c x < fw_c ((20 : Nat) : Int) → (0 ≤ fw_c x ∧ fw_c x < ((20 : Nat) : Int)) ∧ (R (some (1, 0, σ 78 (fw_c x).toNat)) σ)))) : G 0 [some (2, 78, 0), some (0, 0, x)] [] σ := fw_on hG [] 200 h
abbrev fk_at79 : List fw_CR := []
abbrev st_at79 : fw_K → fw_KR → fw_K := fw_st vwCl nn_sh nn_kd fw_kv fw_wc (nn_KI1.map (fun x => x.1)) (nn_KJ1.map (fun x => x.1)) (nn_PF1.map (fun x => x.1)) (nn_PS1.map (fun x => x.1)) fk_at79 0 nn_dt87 2 2
theorem fs_at79_0 {G : fw_K} {R : fw_KR} (hG : fw_cls st_at79 R G) {x : Int} {σ : ab_SG} (h : (fw_c x < 0 → R (some (1, 0, ((0 : Nat) : Int))) σ) ∧ (0 ≤ fw_c x → (fw_c ((20 : Nat) : Int) ≤ fw_c x → R (some (1, 0, ((0 : Nat) : Int))) σ) ∧ (fw_c x < fw_c ((20 : Nat) : Int) → (0 ≤ fw_c x ∧ fw_c x < ((20 : Nat) : Int)) ∧ (R (some (1, 0, σ 79 (fw_c x).toNat)) σ)))) : G 0 [some (2, 79, 0), some (0, 0, x)] [] σ := fw_on hG [] 200 h
abbrev fk_at76 : List fw_CR := []
abbrev st_at76 : fw_K → fw_KR → fw_K := fw_st vwCl nn_sh nn_kd fw_kv fw_wc (nn_KI1.map (fun x => x.1)) (nn_KJ1.map (fun x => x.1)) (nn_PF1.map (fun x => x.1)) (nn_PS1.map (fun x => x.1)) fk_at76 0 nn_dt87 2 2
theorem fs_at76_0 {G : fw_K} {R : fw_KR} (hG : fw_cls st_at76 R G) {x : Int} {σ : ab_SG} (h : (fw_c x < 0 → R (some (1, 0, ((0 : Nat) : Int))) σ) ∧ (0 ≤ fw_c x → (fw_c ((9 : Nat) : Int) ≤ fw_c x → R (some (1, 0, ((0 : Nat) : Int))) σ) ∧ (fw_c x < fw_c ((9 : Nat) : Int) → (0 ≤ fw_c x ∧ fw_c x < ((9 : Nat) : Int)) ∧ (R (some (1, 0, σ 76 (fw_c x).toNat)) σ)))) : G 0 [some (2, 76, 0), some (0, 0, x)] [] σ := fw_on hG [] 200 h
abbrev fk_put78 : List fw_CR := []
abbrev st_put78 : fw_K → fw_KR → fw_K := fw_st vwCl nn_sh nn_kd fw_kv fw_wc (nn_KI1.map (fun x => x.1)) (nn_KJ1.map (fun x => x.1)) (nn_PF1.map (fun x => x.1)) (nn_PS1.map (fun x => x.1)) fk_put78 0 nn_dt26 4 4
theorem fs_put78_0 {G : fw_K} {R : fw_KR} (hG : fw_cls st_put78 R G) {x v : Int} {σ : ab_SG} (h : (fw_c x < 0 → R none σ) ∧ (0 ≤ fw_c x → (fw_c ((20 : Nat) : Int) ≤ fw_c x → R none σ) ∧ (fw_c x < fw_c ((20 : Nat) : Int) → (0 ≤ fw_c x ∧ fw_c x < ((20 : Nat) : Int)) ∧ True ∧ (R none (ab_ups σ 78 (fw_c x).toNat (fw_d v)))))) : G 0 [some (2, 78, 0), some (0, 0, x), some (1, 0, v), none] [] σ := fw_on hG [] 200 h
abbrev fk_put79 : List fw_CR := []
abbrev st_put79 : fw_K → fw_KR → fw_K := fw_st vwCl nn_sh nn_kd fw_kv fw_wc (nn_KI1.map (fun x => x.1)) (nn_KJ1.map (fun x => x.1)) (nn_PF1.map (fun x => x.1)) (nn_PS1.map (fun x => x.1)) fk_put79 0 nn_dt26 4 4
theorem fs_put79_0 {G : fw_K} {R : fw_KR} (hG : fw_cls st_put79 R G) {x v : Int} {σ : ab_SG} (h : (fw_c x < 0 → R none σ) ∧ (0 ≤ fw_c x → (fw_c ((20 : Nat) : Int) ≤ fw_c x → R none σ) ∧ (fw_c x < fw_c ((20 : Nat) : Int) → (0 ≤ fw_c x ∧ fw_c x < ((20 : Nat) : Int)) ∧ True ∧ (R none (ab_ups σ 79 (fw_c x).toNat (fw_d v)))))) : G 0 [some (2, 79, 0), some (0, 0, x), some (1, 0, v), none] [] σ := fw_on hG [] 200 h
abbrev fk_put80 : List fw_CR := []
abbrev st_put80 : fw_K → fw_KR → fw_K := fw_st vwCl nn_sh nn_kd fw_kv fw_wc (nn_KI1.map (fun x => x.1)) (nn_KJ1.map (fun x => x.1)) (nn_PF1.map (fun x => x.1)) (nn_PS1.map (fun x => x.1)) fk_put80 0 nn_dt27 3 4
theorem fs_put80_0 {G : fw_K} {R : fw_KR} (hG : fw_cls st_put80 R G) {x v : Int} {σ : ab_SG} (h : (fw_c x < 0 → R none σ) ∧ (0 ≤ fw_c x → (fw_c ((20 : Nat) : Int) ≤ fw_c x → R none σ) ∧ (fw_c x < fw_c ((20 : Nat) : Int) → (0 ≤ fw_c x ∧ fw_c x < ((20 : Nat) : Int)) ∧ True ∧ (R none (ab_ups σ 80 (fw_c x).toNat (fw_c v)))))) : G 0 [some (2, 80, 0), some (0, 0, x), some (0, 0, v)] [] σ := fw_on hG [] 200 h
abbrev fk_at80 : List fw_CR := []
abbrev st_at80 : fw_K → fw_KR → fw_K := fw_st vwCl nn_sh nn_kd fw_kv fw_wc (nn_KI1.map (fun x => x.1)) (nn_KJ1.map (fun x => x.1)) (nn_PF1.map (fun x => x.1)) (nn_PS1.map (fun x => x.1)) fk_at80 0 nn_dt29 2 0
theorem fs_at80_0 {G : fw_K} {R : fw_KR} (hG : fw_cls st_at80 R G) {x : Int} {σ : ab_SG} (h : (fw_c x < 0 → R (some (0, 0, 0)) σ) ∧ (0 ≤ fw_c x → (fw_c ((20 : Nat) : Int) ≤ fw_c x → R (some (0, 0, 0)) σ) ∧ (fw_c x < fw_c ((20 : Nat) : Int) → (0 ≤ fw_c x ∧ fw_c x < ((20 : Nat) : Int)) ∧ (R (some (0, 0, σ 80 (fw_c x).toNat)) σ)))) : G 0 [some (2, 80, 0), some (0, 0, x)] [] σ := fw_on hG [] 200 h
abbrev fk_speakBest : List fw_CR := [(35, 3, false, 0, 0, sp_put79), (45, 2, false, 0, 0, sp_atj), (51, 3, false, 0, 0, sp_put80)]
abbrev st_speakBest : fw_K → fw_KR → fw_K := fw_st vwCl nn_sh nn_kd fw_kv fw_wc (nn_KI10.map (fun x => x.1)) (nn_KJ10.map (fun x => x.1)) (nn_PF10.map (fun x => x.1)) (nn_PS10.map (fun x => x.1)) fk_speakBest 1 nn_dt95 11 4
theorem fs_speakBest_0 {G : fw_K} {R : fw_KR} (hG : fw_cls st_speakBest R G) {side n m : Int} {σ : ab_SG} (h : (fw_c n ≤ 0 → G 33 [some (2, 77, 0), some (0, 0, side), some (0, 0, n), some (0, 0, m), some (0, 0, (1 - side) * 10), none, none, none, none, none, none] [(1, 0, (-1))] σ) ∧ (0 < fw_c n → sp_atj [(2, 78, 0), (0, 0, ((1 - side) * 10) + n)] σ (fun rv σ2 => G 26 [some (2, 77, 0), some (0, 0, side), some (0, 0, n), some (0, 0, m), some (0, 0, (1 - side) * 10), none, none, none, none, none, none] (rv.toList ++ [(1, 0, 976299632280)]) σ2))) : G 0 [some (2, 77, 0), some (0, 0, side), some (0, 0, n), some (0, 0, m), none, none, none, none, none, none, none] [] σ := fw_on hG [26, 33, 41, 61, 80, 101, 116] 200 h
theorem fs_speakBest_33 {G : fw_K} {R : fw_KR} (hG : fw_cls st_speakBest R G) {a1 a2 a3 a4 b0 : Int} {o5 o6 o7 o8 o9 o10 : Option ab_AV} {σ : ab_SG} (h : G 41 [some (2, 77, 0), some (0, 0, a1), some (0, 0, a2), some (0, 0, a3), some (0, 0, a4), some (1, 0, b0), none, some (0, 0, 0), some (0, 0, a3), o9, o10] [] σ) : G 33 [some (2, 77, 0), some (0, 0, a1), some (0, 0, a2), some (0, 0, a3), some (0, 0, a4), o5, o6, o7, o8, o9, o10] [(1, 0, b0)] σ := fw_on hG [26, 33, 41, 61, 80, 101, 116] 200 h
theorem fs_speakBest_26 {G : fw_K} {R : fw_KR} (hG : fw_cls st_speakBest R G) {a1 a2 a3 a4 b0 b1 : Int} {o5 o6 o7 o8 o9 o10 : Option ab_AV} {σ : ab_SG} (h : G 33 [some (2, 77, 0), some (0, 0, a1), some (0, 0, a2), some (0, 0, a3), some (0, 0, a4), o5, o6, o7, o8, o9, o10] [(1, 0, b1 - b0)] σ) : G 26 [some (2, 77, 0), some (0, 0, a1), some (0, 0, a2), some (0, 0, a3), some (0, 0, a4), o5, o6, o7, o8, o9, o10] [(1, 0, b0), (1, 0, b1)] σ := fw_on hG [26, 33, 41, 61, 80, 101, 116] 200 h
theorem fs_speakBest_41 {G : fw_K} {R : fw_KR} (hG : fw_cls st_speakBest R G) {a1 a2 a4 a5 a7 a8 : Int} {o3 o6 o9 o10 : Option ab_AV} {σ : ab_SG} (h : (fw_c a8 ≤ 0 → sp_put79 [(2, 79, 0), (0, 0, (a1 * 10) + a2), (1, 0, a5)] σ (fun rv σ2 => G 101 [some (2, 77, 0), some (0, 0, a1), some (0, 0, a2), o3, some (0, 0, a4), some (1, 0, a5), o6, some (0, 0, a7), some (0, 0, a8), o9, o10] (rv.toList ++ []) σ2)) ∧ (0 < fw_c a8 → sp_atj [(2, 79, 0), (0, 0, a4 + a8)] σ (fun rv σ2 => G 61 [some (2, 77, 0), some (0, 0, a1), some (0, 0, a2), o3, some (0, 0, a4), some (1, 0, a5), o6, some (0, 0, a7), some (0, 0, a8), o9, o10] (rv.toList ++ [(1, 0, 976299632280)]) σ2))) : G 41 [some (2, 77, 0), some (0, 0, a1), some (0, 0, a2), o3, some (0, 0, a4), some (1, 0, a5), o6, some (0, 0, a7), some (0, 0, a8), o9, o10] [] σ := fw_on hG [26, 33, 41, 61, 80, 101, 116] 200 h
theorem fs_speakBest_101 {G : fw_K} {R : fw_KR} (hG : fw_cls st_speakBest R G) {a1 a2 a7 : Int} {o3 o4 o5 o6 o8 o9 o10 : Option ab_AV} {σ : ab_SG} (h : sp_put80 [(2, 80, 0), (0, 0, (a1 * 10) + a2), (0, 0, a7)] σ (fun rv σ2 => G 116 [some (2, 77, 0), some (0, 0, a1), some (0, 0, a2), o3, o4, o5, o6, some (0, 0, a7), o8, o9, o10] (rv.toList ++ []) σ2)) : G 101 [some (2, 77, 0), some (0, 0, a1), some (0, 0, a2), o3, o4, o5, o6, some (0, 0, a7), o8, o9, o10] [] σ := fw_on hG [26, 33, 41, 61, 80, 101, 116] 200 h
theorem fs_speakBest_61 {G : fw_K} {R : fw_KR} (hG : fw_cls st_speakBest R G) {a1 a2 a4 a5 a7 a8 b0 b1 : Int} {o3 o6 o9 o10 : Option ab_AV} {σ : ab_SG} (h : (fw_d (b1 - b0) ≤ fw_d a5 → G 80 [some (2, 77, 0), some (0, 0, a1), some (0, 0, a2), o3, some (0, 0, a4), some (1, 0, a5), o6, some (0, 0, a7), some (0, 0, a8), some (1, 0, b1 - b0), none] [] σ) ∧ (fw_d a5 < fw_d (b1 - b0) → G 80 [some (2, 77, 0), some (0, 0, a1), some (0, 0, a2), o3, some (0, 0, a4), some (1, 0, b1 - b0), none, some (0, 0, a8), some (0, 0, a8), some (1, 0, b1 - b0), none] [] σ)) : G 61 [some (2, 77, 0), some (0, 0, a1), some (0, 0, a2), o3, some (0, 0, a4), some (1, 0, a5), o6, some (0, 0, a7), some (0, 0, a8), o9, o10] [(1, 0, b0), (1, 0, b1)] σ := fw_on hG [26, 33, 41, 61, 80, 101, 116] 200 h
theorem fs_speakBest_116 {G : fw_K} {R : fw_KR} (hG : fw_cls st_speakBest R G) {o1 o2 o3 o4 o5 o6 o7 o8 o9 o10 : Option ab_AV} {σ : ab_SG} (h : R none σ) : G 116 [some (2, 77, 0), o1, o2, o3, o4, o5, o6, o7, o8, o9, o10] [] σ := fw_on hG [26, 33, 41, 61, 80, 101, 116] 200 h
theorem fs_speakBest_80 {G : fw_K} {R : fw_KR} (hG : fw_cls st_speakBest R G) {a1 a2 a4 a5 a7 a8 : Int} {o3 o6 o9 o10 : Option ab_AV} {σ : ab_SG} (h : G 41 [some (2, 77, 0), some (0, 0, a1), some (0, 0, a2), o3, some (0, 0, a4), some (1, 0, a5), o6, some (0, 0, a7), some (0, 0, a8 + (-1)), o9, o10] [] σ) : G 80 [some (2, 77, 0), some (0, 0, a1), some (0, 0, a2), o3, some (0, 0, a4), some (1, 0, a5), o6, some (0, 0, a7), some (0, 0, a8), o9, o10] [] σ := fw_on hG [26, 33, 41, 61, 80, 101, 116] 200 h
abbrev fk_doBest : List fw_CR := [(39, 3, true, 0, 1, sp_speakBest)]
abbrev st_doBest : fw_K → fw_KR → fw_K := fw_st vwCl nn_sh nn_kd fw_kv fw_wc (nn_KI10.map (fun x => x.1)) (nn_KJ10.map (fun x => x.1)) (nn_PF10.map (fun x => x.1)) (nn_PS10.map (fun x => x.1)) fk_doBest 2 nn_dt94 3 4
theorem fs_doBest_0 {G : fw_K} {R : fw_KR} (hG : fw_cls st_doBest R G) {f : Int} {σ : ab_SG} (h : G 2 [some (2, 77, 0), some (0, 0, f), some (0, 0, 1)] [] σ) : G 0 [some (2, 77, 0), some (0, 0, f), none] [] σ := fw_on hG [2, 17, 26, 39, 46] 200 h
theorem fs_doBest_2 {G : fw_K} {R : fw_KR} (hG : fw_cls st_doBest R G) {a1 a2 : Int} {σ : ab_SG} (h : (fw_c 9 < fw_c a2 → sp_speakBest [(2, 77, 0), (0, 0, 0), (0, 0, 0), (0, 0, a1)] σ (fun rv σ2 => G 39 [some (2, 77, 0), some (0, 0, a1), some (0, 0, a2)] (rv.toList ++ []) σ2)) ∧ (fw_c a2 ≤ fw_c 9 → sp_speakBest [(2, 77, 0), (0, 0, 0), (0, 0, a2), (0, 0, a2 - 1)] σ (fun rv σ2 => G 17 [some (2, 77, 0), some (0, 0, a1), some (0, 0, a2)] (rv.toList ++ []) σ2))) : G 2 [some (2, 77, 0), some (0, 0, a1), some (0, 0, a2)] [] σ := fw_on hG [2, 17, 26, 39, 46] 200 h
theorem fs_doBest_39 {G : fw_K} {R : fw_KR} (hG : fw_cls st_doBest R G) {a1 a2 : Int} {σ : ab_SG} (h : sp_speakBest [(2, 77, 0), (0, 0, 1), (0, 0, 0), (0, 0, a1)] σ (fun rv σ2 => G 46 [some (2, 77, 0), some (0, 0, a1), some (0, 0, a2)] (rv.toList ++ []) σ2)) : G 39 [some (2, 77, 0), some (0, 0, a1), some (0, 0, a2)] [] σ := fw_on hG [2, 17, 26, 39, 46] 200 h
theorem fs_doBest_17 {G : fw_K} {R : fw_KR} (hG : fw_cls st_doBest R G) {a1 a2 : Int} {σ : ab_SG} (h : sp_speakBest [(2, 77, 0), (0, 0, 1), (0, 0, a2), (0, 0, a2 - 1)] σ (fun rv σ2 => G 26 [some (2, 77, 0), some (0, 0, a1), some (0, 0, a2)] (rv.toList ++ []) σ2)) : G 17 [some (2, 77, 0), some (0, 0, a1), some (0, 0, a2)] [] σ := fw_on hG [2, 17, 26, 39, 46] 200 h
theorem fs_doBest_46 {G : fw_K} {R : fw_KR} (hG : fw_cls st_doBest R G) {a1 a2 : Int} {σ : ab_SG} (h : R none σ) : G 46 [some (2, 77, 0), some (0, 0, a1), some (0, 0, a2)] [] σ := fw_on hG [2, 17, 26, 39, 46] 200 h
theorem fs_doBest_26 {G : fw_K} {R : fw_KR} (hG : fw_cls st_doBest R G) {a1 a2 : Int} {σ : ab_SG} (h : G 2 [some (2, 77, 0), some (0, 0, a1), some (0, 0, a2 + 1)] [] σ) : G 26 [some (2, 77, 0), some (0, 0, a1), some (0, 0, a2)] [] σ := fw_on hG [2, 17, 26, 39, 46] 200 h
abbrev fk_dvalue : List fw_CR := [(45, 2, false, 0, 0, sp_atj)]
abbrev st_dvalue : fw_K → fw_KR → fw_K := fw_st vwCl nn_sh nn_kd fw_kv fw_wc (nn_KI10.map (fun x => x.1)) (nn_KJ10.map (fun x => x.1)) (nn_PF10.map (fun x => x.1)) (nn_PS10.map (fun x => x.1)) fk_dvalue 1 nn_dt102 3 2
theorem fs_dvalue_0 {G : fw_K} {R : fw_KR} (hG : fw_cls st_dvalue R G) {side n : Int} {σ : ab_SG} (h : sp_atj [(2, 79, 0), (0, 0, (side * 10) + n)] σ (fun rv σ2 => G 13 [some (2, 77, 0), some (0, 0, side), some (0, 0, n)] (rv.toList ++ []) σ2)) : G 0 [some (2, 77, 0), some (0, 0, side), some (0, 0, n)] [] σ := fw_on hG [13] 200 h
theorem fs_dvalue_13 {G : fw_K} {R : fw_KR} (hG : fw_cls st_dvalue R G) {a1 a2 b0 : Int} {σ : ab_SG} (h : R (some (1, 0, b0)) σ) : G 13 [some (2, 77, 0), some (0, 0, a1), some (0, 0, a2)] [(1, 0, b0)] σ := fw_on hG [13] 200 h
abbrev fk_dmove : List fw_CR := [(61, 2, false, 0, 0, sp_at80)]
abbrev st_dmove : fw_K → fw_KR → fw_K := fw_st vwCl nn_sh nn_kd fw_kv fw_wc (nn_KI10.map (fun x => x.1)) (nn_KJ10.map (fun x => x.1)) (nn_PF10.map (fun x => x.1)) (nn_PS10.map (fun x => x.1)) fk_dmove 1 nn_dt96 3 0
theorem fs_dmove_0 {G : fw_K} {R : fw_KR} (hG : fw_cls st_dmove R G) {side n : Int} {σ : ab_SG} (h : sp_at80 [(2, 80, 0), (0, 0, (side * 10) + n)] σ (fun rv σ2 => G 13 [some (2, 77, 0), some (0, 0, side), some (0, 0, n)] (rv.toList ++ []) σ2)) : G 0 [some (2, 77, 0), some (0, 0, side), some (0, 0, n)] [] σ := fw_on hG [13] 200 h
theorem fs_dmove_13 {G : fw_K} {R : fw_KR} (hG : fw_cls st_dmove R G) {a1 a2 b0 : Int} {σ : ab_SG} (h : R (some (0, 0, b0)) σ) : G 13 [some (2, 77, 0), some (0, 0, a1), some (0, 0, a2)] [(0, 0, b0)] σ := fw_on hG [13] 200 h
abbrev fk_hear : List fw_CR := [(22, 3, true, 1, 3, sp_group), (28, 3, true, 1, 3, sp_listen), (31, 0, true, 1, 3, sp_chance), (35, 3, false, 0, 0, sp_put78)]
abbrev st_hear : fw_K → fw_KR → fw_K := fw_st vwCl nn_sh nn_kd fw_kv fw_wc (nn_KI10.map (fun x => x.1)) (nn_KJ10.map (fun x => x.1)) (nn_PF10.map (fun x => x.1)) (nn_PS10.map (fun x => x.1)) fk_hear 4 nn_dt93 7 4
theorem fs_hear_0 {G : fw_K} {R : fw_KR} (hG : fw_cls st_hear R G) {p q s : Int} {σ : ab_SG} (h : G 3 [some (2, 77, 0), some (2, 3, 0), some (2, 73, 0), some (0, 0, p), some (0, 0, q), some (0, 0, s), some (0, 0, 1)] [] σ) : G 0 [some (2, 77, 0), some (2, 3, 0), some (2, 73, 0), some (0, 0, p), some (0, 0, q), some (0, 0, s), none] [] σ := fw_on hG [3, 19, 26, 36, 39, 47, 60, 63] 200 h
theorem fs_hear_3 {G : fw_K} {R : fw_KR} (hG : fw_cls st_hear R G) {a3 a4 a5 a6 : Int} {σ : ab_SG} (h : (fw_c 9 < fw_c a6 → R none σ) ∧ (fw_c a6 ≤ fw_c 9 → sp_group [(2, 73, 0), (2, 3, 0), (0, 0, a6), (0, 0, a5)] σ (fun rv σ2 => G 19 [some (2, 77, 0), some (2, 3, 0), some (2, 73, 0), some (0, 0, a3), some (0, 0, a4), some (0, 0, a5), some (0, 0, a6)] (rv.toList ++ []) σ2))) : G 3 [some (2, 77, 0), some (2, 3, 0), some (2, 73, 0), some (0, 0, a3), some (0, 0, a4), some (0, 0, a5), some (0, 0, a6)] [] σ := fw_on hG [3, 19, 26, 36, 39, 47, 60, 63] 200 h
theorem fs_hear_19 {G : fw_K} {R : fw_KR} (hG : fw_cls st_hear R G) {a3 a4 a5 a6 : Int} {σ : ab_SG} (h : sp_listen [(2, 73, 0), (2, 3, 0), (0, 0, a3), (0, 0, 0)] σ (fun rv σ2 => G 26 [some (2, 77, 0), some (2, 3, 0), some (2, 73, 0), some (0, 0, a3), some (0, 0, a4), some (0, 0, a5), some (0, 0, a6)] (rv.toList ++ []) σ2)) : G 19 [some (2, 77, 0), some (2, 3, 0), some (2, 73, 0), some (0, 0, a3), some (0, 0, a4), some (0, 0, a5), some (0, 0, a6)] [] σ := fw_on hG [3, 19, 26, 36, 39, 47, 60, 63] 200 h
theorem fs_hear_26 {G : fw_K} {R : fw_KR} (hG : fw_cls st_hear R G) {a3 a4 a5 a6 : Int} {σ : ab_SG} (h : sp_chance [(2, 73, 0)] σ (fun rv σ2 => G 36 [some (2, 77, 0), some (2, 3, 0), some (2, 73, 0), some (0, 0, a3), some (0, 0, a4), some (0, 0, a5), some (0, 0, a6)] (rv.toList ++ [(0, 0, a6), (2, 78, 0)]) σ2)) : G 26 [some (2, 77, 0), some (2, 3, 0), some (2, 73, 0), some (0, 0, a3), some (0, 0, a4), some (0, 0, a5), some (0, 0, a6)] [] σ := fw_on hG [3, 19, 26, 36, 39, 47, 60, 63] 200 h
theorem fs_hear_36 {G : fw_K} {R : fw_KR} (hG : fw_cls st_hear R G) {a3 a4 a5 a6 b0 b1 : Int} {σ : ab_SG} (h : sp_put78 [(2, 78, 0), (0, 0, b1), (1, 0, b0)] σ (fun rv σ2 => G 39 [some (2, 77, 0), some (2, 3, 0), some (2, 73, 0), some (0, 0, a3), some (0, 0, a4), some (0, 0, a5), some (0, 0, a6)] (rv.toList ++ []) σ2)) : G 36 [some (2, 77, 0), some (2, 3, 0), some (2, 73, 0), some (0, 0, a3), some (0, 0, a4), some (0, 0, a5), some (0, 0, a6)] [(1, 0, b0), (0, 0, b1), (2, 78, 0)] σ := fw_on hG [3, 19, 26, 36, 39, 47, 60, 63] 200 h
theorem fs_hear_39 {G : fw_K} {R : fw_KR} (hG : fw_cls st_hear R G) {a3 a4 a5 a6 : Int} {σ : ab_SG} (h : sp_listen [(2, 73, 0), (2, 3, 0), (0, 0, a4), (0, 0, 0)] σ (fun rv σ2 => G 47 [some (2, 77, 0), some (2, 3, 0), some (2, 73, 0), some (0, 0, a3), some (0, 0, a4), some (0, 0, a5), some (0, 0, a6)] (rv.toList ++ []) σ2)) : G 39 [some (2, 77, 0), some (2, 3, 0), some (2, 73, 0), some (0, 0, a3), some (0, 0, a4), some (0, 0, a5), some (0, 0, a6)] [] σ := fw_on hG [3, 19, 26, 36, 39, 47, 60, 63] 200 h
theorem fs_hear_47 {G : fw_K} {R : fw_KR} (hG : fw_cls st_hear R G) {a3 a4 a5 a6 : Int} {σ : ab_SG} (h : sp_chance [(2, 73, 0)] σ (fun rv σ2 => G 60 [some (2, 77, 0), some (2, 3, 0), some (2, 73, 0), some (0, 0, a3), some (0, 0, a4), some (0, 0, a5), some (0, 0, a6)] (rv.toList ++ [(0, 0, 10 + a6), (2, 78, 0)]) σ2)) : G 47 [some (2, 77, 0), some (2, 3, 0), some (2, 73, 0), some (0, 0, a3), some (0, 0, a4), some (0, 0, a5), some (0, 0, a6)] [] σ := fw_on hG [3, 19, 26, 36, 39, 47, 60, 63] 200 h
theorem fs_hear_60 {G : fw_K} {R : fw_KR} (hG : fw_cls st_hear R G) {a3 a4 a5 a6 b0 b1 : Int} {σ : ab_SG} (h : sp_put78 [(2, 78, 0), (0, 0, b1), (1, 0, b0)] σ (fun rv σ2 => G 63 [some (2, 77, 0), some (2, 3, 0), some (2, 73, 0), some (0, 0, a3), some (0, 0, a4), some (0, 0, a5), some (0, 0, a6)] (rv.toList ++ []) σ2)) : G 60 [some (2, 77, 0), some (2, 3, 0), some (2, 73, 0), some (0, 0, a3), some (0, 0, a4), some (0, 0, a5), some (0, 0, a6)] [(1, 0, b0), (0, 0, b1), (2, 78, 0)] σ := fw_on hG [3, 19, 26, 36, 39, 47, 60, 63] 200 h
theorem fs_hear_63 {G : fw_K} {R : fw_KR} (hG : fw_cls st_hear R G) {a3 a4 a5 a6 : Int} {σ : ab_SG} (h : G 3 [some (2, 77, 0), some (2, 3, 0), some (2, 73, 0), some (0, 0, a3), some (0, 0, a4), some (0, 0, a5), some (0, 0, a6 + 1)] [] σ) : G 63 [some (2, 77, 0), some (2, 3, 0), some (2, 73, 0), some (0, 0, a3), some (0, 0, a4), some (0, 0, a5), some (0, 0, a6)] [] σ := fw_on hG [3, 19, 26, 36, 39, 47, 60, 63] 200 h
abbrev fk_canBid : List fw_CR := [(166, 1, true, 6, 0, sp_isClue3), (173, 1, true, 6, 0, sp_isPerson3), (184, 1, false, 0, 0, sp_isBid)]
abbrev st_canBid : fw_K → fw_KR → fw_K := fw_st vwCl nn_sh nn_kd fw_kv fw_wc (nn_KI1.map (fun x => x.1)) (nn_KJ1.map (fun x => x.1)) (nn_PF1.map (fun x => x.1)) (nn_PS1.map (fun x => x.1)) fk_canBid 2 nn_dt91 5 1
theorem fs_canBid_0 {G : fw_K} {R : fw_KR} (hG : fw_cls st_canBid R G) {p q n c : Int} {σ : ab_SG} (h : sp_isPerson3 [(2, 3, 0), (0, 0, p)] σ (fun rv σ2 => G 8 [some (2, 0, 0), some (0, 0, p), some (0, 0, q), some (0, 0, n), some (0, 0, c)] (rv.toList ++ []) σ2)) : G 0 [some (2, 0, 0), some (0, 0, p), some (0, 0, q), some (0, 0, n), some (0, 0, c)] [] σ := fw_on hG [8, 19, 35, 38, 47] 200 h
theorem fs_canBid_8 {G : fw_K} {R : fw_KR} (hG : fw_cls st_canBid R G) {a1 a2 a3 a4 b0 : Int} {σ : ab_SG} (h : (fw_c b0 = 0 → (0 ≤ fw_c 0 ∧ fw_c 0 ≤ 1) ∧ R (some (0, 0, 0)) σ) ∧ (fw_c b0 ≠ 0 → sp_isPerson3 [(2, 3, 0), (0, 0, a2)] σ (fun rv σ2 => G 19 [some (2, 0, 0), some (0, 0, a1), some (0, 0, a2), some (0, 0, a3), some (0, 0, a4)] (rv.toList ++ []) σ2))) : G 8 [some (2, 0, 0), some (0, 0, a1), some (0, 0, a2), some (0, 0, a3), some (0, 0, a4)] [(0, 0, b0)] σ := fw_on hG [8, 19, 35, 38, 47] 200 h
theorem fs_canBid_19 {G : fw_K} {R : fw_KR} (hG : fw_cls st_canBid R G) {a1 a2 a3 a4 b0 : Int} {σ : ab_SG} (h : (fw_c b0 = 0 → (0 ≤ fw_c 0 ∧ fw_c 0 ≤ 1) ∧ R (some (0, 0, 0)) σ) ∧ (fw_c b0 ≠ 0 → (fw_c a1 = fw_c a2 → (0 ≤ fw_c 0 ∧ fw_c 0 ≤ 1) ∧ R (some (0, 0, 0)) σ) ∧ (fw_c a1 ≠ fw_c a2 → (fw_c a3 = 0 → G 38 [some (2, 0, 0), some (0, 0, a1), some (0, 0, a2), some (0, 0, a3), some (0, 0, a4)] [] σ) ∧ (fw_c a3 ≠ 0 → sp_isBid [(0, 0, a3)] σ (fun rv σ2 => G 35 [some (2, 0, 0), some (0, 0, a1), some (0, 0, a2), some (0, 0, a3), some (0, 0, a4)] (rv.toList ++ []) σ2))))) : G 19 [some (2, 0, 0), some (0, 0, a1), some (0, 0, a2), some (0, 0, a3), some (0, 0, a4)] [(0, 0, b0)] σ := fw_on hG [8, 19, 35, 38, 47] 200 h
theorem fs_canBid_38 {G : fw_K} {R : fw_KR} (hG : fw_cls st_canBid R G) {a1 a2 a3 a4 : Int} {σ : ab_SG} (h : sp_isClue3 [(2, 3, 0), (0, 0, a4)] σ (fun rv σ2 => G 47 [some (2, 0, 0), some (0, 0, a1), some (0, 0, a2), some (0, 0, a3), some (0, 0, a4)] (rv.toList ++ []) σ2)) : G 38 [some (2, 0, 0), some (0, 0, a1), some (0, 0, a2), some (0, 0, a3), some (0, 0, a4)] [] σ := fw_on hG [8, 19, 35, 38, 47] 200 h
theorem fs_canBid_35 {G : fw_K} {R : fw_KR} (hG : fw_cls st_canBid R G) {a1 a2 a3 a4 b0 : Int} {σ : ab_SG} (h : (fw_c b0 = 0 → (0 ≤ fw_c 0 ∧ fw_c 0 ≤ 1) ∧ R (some (0, 0, 0)) σ) ∧ (fw_c b0 ≠ 0 → G 38 [some (2, 0, 0), some (0, 0, a1), some (0, 0, a2), some (0, 0, a3), some (0, 0, a4)] [] σ)) : G 35 [some (2, 0, 0), some (0, 0, a1), some (0, 0, a2), some (0, 0, a3), some (0, 0, a4)] [(0, 0, b0)] σ := fw_on hG [8, 19, 35, 38, 47] 200 h
theorem fs_canBid_47 {G : fw_K} {R : fw_KR} (hG : fw_cls st_canBid R G) {a1 a2 a3 a4 b0 : Int} {σ : ab_SG} (h : (fw_c b0 = 0 → (0 ≤ fw_c 0 ∧ fw_c 0 ≤ 1) ∧ R (some (0, 0, 0)) σ) ∧ (fw_c b0 ≠ 0 → (0 ≤ fw_c 1 ∧ fw_c 1 ≤ 1) ∧ R (some (0, 0, 1)) σ)) : G 47 [some (2, 0, 0), some (0, 0, a1), some (0, 0, a2), some (0, 0, a3), some (0, 0, a4)] [(0, 0, b0)] σ := fw_on hG [8, 19, 35, 38, 47] 200 h
abbrev fk_weigh : List fw_CR := [(169, 1, true, 6, 1, sp_setOf3), (463, 5, true, 0, 4, sp_hear), (467, 1, true, 0, 2, sp_doBest)]
abbrev st_weigh : fw_K → fw_KR → fw_K := fw_st vwCl nn_sh nn_kd fw_kv fw_wc (nn_KI1.map (fun x => x.1)) (nn_KJ1.map (fun x => x.1)) (nn_PF1.map (fun x => x.1)) (nn_PS1.map (fun x => x.1)) fk_weigh 5 nn_dt92 4 4
theorem fs_weigh_0 {G : fw_K} {R : fw_KR} (hG : fw_cls st_weigh R G) {p q c : Int} {σ : ab_SG} (h : sp_setOf3 [(2, 3, 0), (0, 0, c)] σ (fun rv σ2 => G 22 [some (2, 0, 0), some (0, 0, p), some (0, 0, q), some (0, 0, c)] (rv.toList ++ [(0, 0, q), (0, 0, p), (2, 73, 0), (2, 3, 0), (2, 77, 0)]) σ2)) : G 0 [some (2, 0, 0), some (0, 0, p), some (0, 0, q), some (0, 0, c)] [] σ := fw_on hG [22, 25, 39] 200 h
theorem fs_weigh_22 {G : fw_K} {R : fw_KR} (hG : fw_cls st_weigh R G) {a1 a2 a3 b0 b1 b2 : Int} {σ : ab_SG} (h : sp_hear [(2, 77, 0), (2, 3, 0), (2, 73, 0), (0, 0, b2), (0, 0, b1), (0, 0, b0)] σ (fun rv σ2 => G 25 [some (2, 0, 0), some (0, 0, a1), some (0, 0, a2), some (0, 0, a3)] (rv.toList ++ []) σ2)) : G 22 [some (2, 0, 0), some (0, 0, a1), some (0, 0, a2), some (0, 0, a3)] [(0, 0, b0), (0, 0, b1), (0, 0, b2), (2, 73, 0), (2, 3, 0), (2, 77, 0)] σ := fw_on hG [22, 25, 39] 200 h
theorem fs_weigh_25 {G : fw_K} {R : fw_KR} (hG : fw_cls st_weigh R G) {a1 a2 a3 : Int} {σ : ab_SG} (h : sp_doBest [(2, 77, 0), (0, 0, σ 3 14)] σ (fun rv σ2 => G 39 [some (2, 0, 0), some (0, 0, a1), some (0, 0, a2), some (0, 0, a3)] (rv.toList ++ []) σ2)) : G 25 [some (2, 0, 0), some (0, 0, a1), some (0, 0, a2), some (0, 0, a3)] [] σ := fw_on hG [22, 25, 39] 200 h
theorem fs_weigh_39 {G : fw_K} {R : fw_KR} (hG : fw_cls st_weigh R G) {a1 a2 a3 : Int} {σ : ab_SG} (h : R none σ) : G 39 [some (2, 0, 0), some (0, 0, a1), some (0, 0, a2), some (0, 0, a3)] [] σ := fw_on hG [22, 25, 39] 200 h
abbrev fk_lastBid : List fw_CR := [(64, 2, true, 0, 1, sp_dmove)]
abbrev st_lastBid : fw_K → fw_KR → fw_K := fw_st vwCl nn_sh nn_kd fw_kv fw_wc (nn_KI10.map (fun x => x.1)) (nn_KJ10.map (fun x => x.1)) (nn_PF10.map (fun x => x.1)) (nn_PS10.map (fun x => x.1)) fk_lastBid 2 nn_dt104 5 0
theorem fs_lastBid_0 {G : fw_K} {R : fw_KR} (hG : fw_cls st_lastBid R G) {σ : ab_SG} (h : sp_dmove [(2, 77, 0), (0, 0, 0), (0, 0, 0)] σ (fun rv σ2 => G 10 [some (2, 77, 0), some (0, 0, 0), some (0, 0, 0), none, none] (rv.toList ++ []) σ2)) : G 0 [some (2, 77, 0), none, none, none, none] [] σ := fw_on hG [10, 14, 37] 200 h
theorem fs_lastBid_10 {G : fw_K} {R : fw_KR} (hG : fw_cls st_lastBid R G) {a1 a2 b0 : Int} {σ : ab_SG} (h : G 14 [some (2, 77, 0), some (0, 0, a1), some (0, 0, a2), some (0, 0, b0), some (0, 0, 0)] [] σ) : G 10 [some (2, 77, 0), some (0, 0, a1), some (0, 0, a2), none, none] [(0, 0, b0)] σ := fw_on hG [10, 14, 37] 200 h
theorem fs_lastBid_14 {G : fw_K} {R : fw_KR} (hG : fw_cls st_lastBid R G) {a1 a2 a3 a4 : Int} {σ : ab_SG} (h : (fw_c 9 ≤ fw_c a4 → R (some (0, 0, a2)) σ) ∧ (fw_c a4 < fw_c 9 → (fw_c a3 ≤ 0 → R (some (0, 0, a2)) σ) ∧ (0 < fw_c a3 → sp_dmove [(2, 77, 0), (0, 0, 1 - a1), (0, 0, a3)] σ (fun rv σ2 => G 37 [some (2, 77, 0), some (0, 0, 1 - a1), some (0, 0, a3), some (0, 0, a3), some (0, 0, a4)] (rv.toList ++ []) σ2)))) : G 14 [some (2, 77, 0), some (0, 0, a1), some (0, 0, a2), some (0, 0, a3), some (0, 0, a4)] [] σ := fw_on hG [10, 14, 37] 200 h
theorem fs_lastBid_37 {G : fw_K} {R : fw_KR} (hG : fw_cls st_lastBid R G) {a1 a2 a3 a4 b0 : Int} {σ : ab_SG} (h : G 14 [some (2, 77, 0), some (0, 0, a1), some (0, 0, a2), some (0, 0, b0), some (0, 0, a4 + 1)] [] σ) : G 37 [some (2, 77, 0), some (0, 0, a1), some (0, 0, a2), some (0, 0, a3), some (0, 0, a4)] [(0, 0, b0)] σ := fw_on hG [10, 14, 37] 200 h
abbrev fk_best : List fw_CR := [(239, 4, true, 10, 2, sp_canBid), (242, 3, true, 10, 5, sp_weigh), (246, 2, true, 0, 1, sp_dmove)]
abbrev st_best : fw_K → fw_KR → fw_K := fw_st vwCl nn_sh nn_kd fw_kv fw_wc (nn_KI1.map (fun x => x.1)) (nn_KJ1.map (fun x => x.1)) (nn_PF1.map (fun x => x.1)) (nn_PS1.map (fun x => x.1)) fk_best 6 nn_dt90 5 0
theorem fs_best_0 {G : fw_K} {R : fw_KR} (hG : fw_cls st_best R G) {p q n c : Int} {σ : ab_SG} (h : sp_canBid [(2, 0, 0), (0, 0, p), (0, 0, q), (0, 0, n), (0, 0, c)] σ (fun rv σ2 => G 9 [some (2, 0, 0), some (0, 0, p), some (0, 0, q), some (0, 0, n), some (0, 0, c)] (rv.toList ++ []) σ2)) : G 0 [some (2, 0, 0), some (0, 0, p), some (0, 0, q), some (0, 0, n), some (0, 0, c)] [] σ := fw_on hG [9, 22, 31] 200 h
theorem fs_best_9 {G : fw_K} {R : fw_KR} (hG : fw_cls st_best R G) {a1 a2 a3 a4 b0 : Int} {σ : ab_SG} (h : (fw_c b0 ≠ 0 → sp_weigh [(2, 0, 0), (0, 0, a1), (0, 0, a2), (0, 0, a4)] σ (fun rv σ2 => G 22 [some (2, 0, 0), some (0, 0, a1), some (0, 0, a2), some (0, 0, a3), some (0, 0, a4)] (rv.toList ++ []) σ2)) ∧ (fw_c b0 = 0 → R (some (0, 0, (-1))) σ)) : G 9 [some (2, 0, 0), some (0, 0, a1), some (0, 0, a2), some (0, 0, a3), some (0, 0, a4)] [(0, 0, b0)] σ := fw_on hG [9, 22, 31] 200 h
theorem fs_best_22 {G : fw_K} {R : fw_KR} (hG : fw_cls st_best R G) {a1 a2 a3 a4 : Int} {σ : ab_SG} (h : sp_dmove [(2, 77, 0), (0, 0, 0), (0, 0, a3)] σ (fun rv σ2 => G 31 [some (2, 0, 0), some (0, 0, a1), some (0, 0, a2), some (0, 0, a3), some (0, 0, a4)] (rv.toList ++ []) σ2)) : G 22 [some (2, 0, 0), some (0, 0, a1), some (0, 0, a2), some (0, 0, a3), some (0, 0, a4)] [] σ := fw_on hG [9, 22, 31] 200 h
theorem fs_best_31 {G : fw_K} {R : fw_KR} (hG : fw_cls st_best R G) {a1 a2 a3 a4 b0 : Int} {σ : ab_SG} (h : R (some (0, 0, b0)) σ) : G 31 [some (2, 0, 0), some (0, 0, a1), some (0, 0, a2), some (0, 0, a3), some (0, 0, a4)] [(0, 0, b0)] σ := fw_on hG [9, 22, 31] 200 h
abbrev fk_fair : List fw_CR := [(239, 4, true, 10, 2, sp_canBid), (242, 3, true, 10, 5, sp_weigh), (249, 2, true, 0, 1, sp_dvalue)]
abbrev st_fair : fw_K → fw_KR → fw_K := fw_st vwCl nn_sh nn_kd fw_kv fw_wc (nn_KI1.map (fun x => x.1)) (nn_KJ1.map (fun x => x.1)) (nn_PF1.map (fun x => x.1)) (nn_PS1.map (fun x => x.1)) fk_fair 6 nn_dt101 8 0
theorem fs_fair_0 {G : fw_K} {R : fw_KR} (hG : fw_cls st_fair R G) {p q c : Int} {σ : ab_SG} (h : sp_canBid [(2, 0, 0), (0, 0, p), (0, 0, q), (0, 0, 0), (0, 0, c)] σ (fun rv σ2 => G 8 [some (2, 0, 0), some (0, 0, p), some (0, 0, q), some (0, 0, c), none, none, none, none] (rv.toList ++ []) σ2)) : G 0 [some (2, 0, 0), some (0, 0, p), some (0, 0, q), some (0, 0, c), none, none, none, none] [] σ := fw_on hG [8, 20, 32, 50, 74] 200 h
theorem fs_fair_8 {G : fw_K} {R : fw_KR} (hG : fw_cls st_fair R G) {a1 a2 a3 b0 : Int} {σ : ab_SG} (h : (fw_c b0 ≠ 0 → sp_weigh [(2, 0, 0), (0, 0, a1), (0, 0, a2), (0, 0, a3)] σ (fun rv σ2 => G 20 [some (2, 0, 0), some (0, 0, a1), some (0, 0, a2), some (0, 0, a3), none, none, none, none] (rv.toList ++ []) σ2)) ∧ (fw_c b0 = 0 → R (some (0, 0, (-1))) σ)) : G 8 [some (2, 0, 0), some (0, 0, a1), some (0, 0, a2), some (0, 0, a3), none, none, none, none] [(0, 0, b0)] σ := fw_on hG [8, 20, 32, 50, 74] 200 h
theorem fs_fair_20 {G : fw_K} {R : fw_KR} (hG : fw_cls st_fair R G) {a1 a2 a3 : Int} {σ : ab_SG} (h : sp_dvalue [(2, 77, 0), (0, 0, 0), (0, 0, 0)] σ (fun rv σ2 => G 32 [some (2, 0, 0), some (0, 0, a1), some (0, 0, a2), some (0, 0, a3), none, none, none, none] (rv.toList ++ [(1, 0, 2)]) σ2)) : G 20 [some (2, 0, 0), some (0, 0, a1), some (0, 0, a2), some (0, 0, a3), none, none, none, none] [] σ := fw_on hG [8, 20, 32, 50, 74] 200 h
theorem fs_fair_32 {G : fw_K} {R : fw_KR} (hG : fw_cls st_fair R G) {a1 a2 a3 b0 b1 : Int} {σ : ab_SG} (h : sp_dvalue [(2, 77, 0), (0, 0, 1), (0, 0, 0)] σ (fun rv σ2 => G 50 [some (2, 0, 0), some (0, 0, a1), some (0, 0, a2), some (0, 0, a3), some (1, 0, b1 * b0), none, none, none] (rv.toList ++ [(1, 0, 976299632280), (1, 0, 2)]) σ2)) : G 32 [some (2, 0, 0), some (0, 0, a1), some (0, 0, a2), some (0, 0, a3), none, none, none, none] [(1, 0, b0), (1, 0, b1)] σ := fw_on hG [8, 20, 32, 50, 74] 200 h
theorem fs_fair_50 {G : fw_K} {R : fw_KR} (hG : fw_cls st_fair R G) {a1 a2 a3 a4 b0 b1 b2 : Int} {σ : ab_SG} (h : (fw_d a4 ≤ fw_d 976299632280 → G 74 [some (2, 0, 0), some (0, 0, a1), some (0, 0, a2), some (0, 0, a3), some (1, 0, a4), none, some (1, 0, b2 * (b1 - b0)), none] [] σ) ∧ (fw_d 976299632280 < fw_d a4 → (fw_d (b2 * (b1 - b0)) ≤ fw_d 976299632280 → G 74 [some (2, 0, 0), some (0, 0, a1), some (0, 0, a2), some (0, 0, a3), some (1, 0, a4), none, some (1, 0, b2 * (b1 - b0)), none] [] σ) ∧ (fw_d 976299632280 < fw_d (b2 * (b1 - b0)) → R (some (0, 0, 1)) σ))) : G 50 [some (2, 0, 0), some (0, 0, a1), some (0, 0, a2), some (0, 0, a3), some (1, 0, a4), none, none, none] [(1, 0, b0), (1, 0, b1), (1, 0, b2)] σ := fw_on hG [8, 20, 32, 50, 74] 200 h
theorem fs_fair_74 {G : fw_K} {R : fw_KR} (hG : fw_cls st_fair R G) {a1 a2 a3 a4 a6 : Int} {σ : ab_SG} (h : (fw_d 976299632280 ≤ fw_d a4 → R (some (0, 0, 0)) σ) ∧ (fw_d a4 < fw_d 976299632280 → (fw_d 976299632280 ≤ fw_d a6 → R (some (0, 0, 0)) σ) ∧ (fw_d a6 < fw_d 976299632280 → R (some (0, 0, (-1))) σ))) : G 74 [some (2, 0, 0), some (0, 0, a1), some (0, 0, a2), some (0, 0, a3), some (1, 0, a4), none, some (1, 0, a6), none] [] σ := fw_on hG [8, 20, 32, 50, 74] 200 h
abbrev fk_low : List fw_CR := [(239, 4, true, 10, 2, sp_canBid), (242, 3, true, 10, 5, sp_weigh), (266, 0, true, 0, 2, sp_lastBid)]
abbrev st_low : fw_K → fw_KR → fw_K := fw_st vwCl nn_sh nn_kd fw_kv fw_wc (nn_KI1.map (fun x => x.1)) (nn_KJ1.map (fun x => x.1)) (nn_PF1.map (fun x => x.1)) (nn_PS1.map (fun x => x.1)) fk_low 6 nn_dt103 4 0
theorem fs_low_0 {G : fw_K} {R : fw_KR} (hG : fw_cls st_low R G) {p q c : Int} {σ : ab_SG} (h : sp_canBid [(2, 0, 0), (0, 0, p), (0, 0, q), (0, 0, 0), (0, 0, c)] σ (fun rv σ2 => G 8 [some (2, 0, 0), some (0, 0, p), some (0, 0, q), some (0, 0, c)] (rv.toList ++ []) σ2)) : G 0 [some (2, 0, 0), some (0, 0, p), some (0, 0, q), some (0, 0, c)] [] σ := fw_on hG [8, 20, 27] 200 h
theorem fs_low_8 {G : fw_K} {R : fw_KR} (hG : fw_cls st_low R G) {a1 a2 a3 b0 : Int} {σ : ab_SG} (h : (fw_c b0 ≠ 0 → sp_weigh [(2, 0, 0), (0, 0, a1), (0, 0, a2), (0, 0, a3)] σ (fun rv σ2 => G 20 [some (2, 0, 0), some (0, 0, a1), some (0, 0, a2), some (0, 0, a3)] (rv.toList ++ []) σ2)) ∧ (fw_c b0 = 0 → R (some (0, 0, (-1))) σ)) : G 8 [some (2, 0, 0), some (0, 0, a1), some (0, 0, a2), some (0, 0, a3)] [(0, 0, b0)] σ := fw_on hG [8, 20, 27] 200 h
theorem fs_low_20 {G : fw_K} {R : fw_KR} (hG : fw_cls st_low R G) {a1 a2 a3 : Int} {σ : ab_SG} (h : sp_lastBid [(2, 77, 0)] σ (fun rv σ2 => G 27 [some (2, 0, 0), some (0, 0, a1), some (0, 0, a2), some (0, 0, a3)] (rv.toList ++ []) σ2)) : G 20 [some (2, 0, 0), some (0, 0, a1), some (0, 0, a2), some (0, 0, a3)] [] σ := fw_on hG [8, 20, 27] 200 h
theorem fs_low_27 {G : fw_K} {R : fw_KR} (hG : fw_cls st_low R G) {a1 a2 a3 b0 : Int} {σ : ab_SG} (h : R (some (0, 0, b0)) σ) : G 27 [some (2, 0, 0), some (0, 0, a1), some (0, 0, a2), some (0, 0, a3)] [(0, 0, b0)] σ := fw_on hG [8, 20, 27] 200 h

section
variable {l : Launch} {cy : Nat → ClassId} {ad wr cr : Nat → Nat} {D : va_G}
theorem fm_at78 (hinj : nn_inj ad) : fw_H l cy ad wr cr D 87 0 (atl_k 78 20) := fw_mk hinj (⟨"NameNotes", "at", "([JI)J"⟩, prog_1_method_85_code, 2, (Option.some Jvm.ClassFile.FieldType.long), 2, false, 2) rfl rfl nn_KI1_ok nn_KJ1_ok nn_PF1_ok nn_PS1_ok (by decide +kernel) rfl rfl (fun _ h => absurd h List.not_mem_nil) (fun as σ K h => by
  obtain ⟨x, rfl, h1, h2⟩ := h
  exact ⟨rfl, fun G hG => atl_gen (k := 78) (n := 20) (K := K) (σ := σ) (x := x) (by decide) (fs_at78_0 hG) h1 h2⟩)
theorem fm_at79 (hinj : nn_inj ad) : fw_H l cy ad wr cr D 87 0 (atl_k 79 20) := fw_mk hinj (⟨"NameNotes", "at", "([JI)J"⟩, prog_1_method_85_code, 2, (Option.some Jvm.ClassFile.FieldType.long), 2, false, 2) rfl rfl nn_KI1_ok nn_KJ1_ok nn_PF1_ok nn_PS1_ok (by decide +kernel) rfl rfl (fun _ h => absurd h List.not_mem_nil) (fun as σ K h => by
  obtain ⟨x, rfl, h1, h2⟩ := h
  exact ⟨rfl, fun G hG => atl_gen (k := 79) (n := 20) (K := K) (σ := σ) (x := x) (by decide) (fs_at79_0 hG) h1 h2⟩)
theorem fm_at76 (hinj : nn_inj ad) : fw_H l cy ad wr cr D 87 0 (atl_k 76 9) := fw_mk hinj (⟨"NameNotes", "at", "([JI)J"⟩, prog_1_method_85_code, 2, (Option.some Jvm.ClassFile.FieldType.long), 2, false, 2) rfl rfl nn_KI1_ok nn_KJ1_ok nn_PF1_ok nn_PS1_ok (by decide +kernel) rfl rfl (fun _ h => absurd h List.not_mem_nil) (fun as σ K h => by
  obtain ⟨x, rfl, h1, h2⟩ := h
  exact ⟨rfl, fun G hG => atl_gen (k := 76) (n := 9) (K := K) (σ := σ) (x := x) (by decide) (fs_at76_0 hG) h1 h2⟩)
theorem fm_atj (hinj : nn_inj ad) : fw_H l cy ad wr cr D 87 0 sp_atj := fw_H_of (List.forall_mem_cons.mpr ⟨fm_at78 hinj, List.forall_mem_cons.mpr ⟨fm_at79 hinj, List.forall_mem_cons.mpr ⟨fm_at76 hinj, (fun _ h => absurd h List.not_mem_nil)⟩⟩⟩)
theorem fm_put78 (hinj : nn_inj ad) : fw_H l cy ad wr cr D 26 0 (putl_k 78 20) := fw_mk hinj (⟨"NameNotes", "put", "([JIJ)V"⟩, prog_1_method_87_code, 4, (Option.none : Option Jvm.ClassFile.FieldType), 3, false, 4) rfl rfl nn_KI1_ok nn_KJ1_ok nn_PF1_ok nn_PS1_ok (by decide +kernel) rfl rfl (fun _ h => absurd h List.not_mem_nil) (fun as σ K h => by
  obtain ⟨x, v, rfl, h1, h2⟩ := h
  exact ⟨rfl, fun G hG => put_gen (k := 78) (n := 20) (K := K) (σ := σ) (x := x) (c := fw_d v) (by decide) (fs_put78_0 hG) h1 h2⟩)
theorem fm_put79 (hinj : nn_inj ad) : fw_H l cy ad wr cr D 26 0 (putl_k 79 20) := fw_mk hinj (⟨"NameNotes", "put", "([JIJ)V"⟩, prog_1_method_87_code, 4, (Option.none : Option Jvm.ClassFile.FieldType), 3, false, 4) rfl rfl nn_KI1_ok nn_KJ1_ok nn_PF1_ok nn_PS1_ok (by decide +kernel) rfl rfl (fun _ h => absurd h List.not_mem_nil) (fun as σ K h => by
  obtain ⟨x, v, rfl, h1, h2⟩ := h
  exact ⟨rfl, fun G hG => put_gen (k := 79) (n := 20) (K := K) (σ := σ) (x := x) (c := fw_d v) (by decide) (fs_put79_0 hG) h1 h2⟩)
theorem fm_put80 (hinj : nn_inj ad) : fw_H l cy ad wr cr D 27 0 (put_k 80 20) := fw_mk hinj (⟨"NameNotes", "put", "([III)V"⟩, prog_1_method_86_code, 3, (Option.none : Option Jvm.ClassFile.FieldType), 3, false, 4) rfl rfl nn_KI1_ok nn_KJ1_ok nn_PF1_ok nn_PS1_ok (by decide +kernel) rfl rfl (fun _ h => absurd h List.not_mem_nil) (fun as σ K h => by
  obtain ⟨x, v, rfl, h1, h2⟩ := h
  exact ⟨rfl, fun G hG => put_gen (k := 80) (n := 20) (K := K) (σ := σ) (x := x) (c := fw_c v) (by decide) (fs_put80_0 hG) h1 h2⟩)
theorem fm_at80 (hinj : nn_inj ad) : fw_H l cy ad wr cr D 29 0 (at_k 80 20) := fw_mk hinj (⟨"NameNotes", "at", "([II)I"⟩, prog_1_method_84_code, 2, (Option.some Jvm.ClassFile.FieldType.int), 2, false, 0) rfl rfl nn_KI1_ok nn_KJ1_ok nn_PF1_ok nn_PS1_ok (by decide +kernel) rfl rfl (fun _ h => absurd h List.not_mem_nil) (fun as σ K h => by
  obtain ⟨x, rfl, h1, h2⟩ := h
  exact ⟨rfl, fun G hG => at_gen (k := 80) (n := 20) (K := K) (σ := σ) (x := x) (by decide) (fs_at80_0 hG) h1 h2⟩)
theorem fm_speakBest (hinj : nn_inj ad) : fw_H l cy ad wr cr D 95 1 sp_speakBest := fw_mk hinj (⟨"NameNotes$Duel", "speakBest", "(III)V"⟩, prog_2_method_4_code, 11, (Option.none : Option Jvm.ClassFile.FieldType), 3, true, 4) rfl rfl nn_KI10_ok nn_KJ10_ok nn_PF10_ok nn_PS10_ok (by decide +kernel) rfl rfl (List.forall_mem_cons.mpr ⟨fw_row nn_PM10_ok (x := 35) (k := 2) (mn := 26) (np := 3) (ob := false) (ci := 0) (⟨"NameNotes", "put", "([JIJ)V"⟩, prog_1_method_87_code, 4, (Option.none : Option Jvm.ClassFile.FieldType), 3, false, 4) rfl (by decide +kernel) rfl rfl (by decide) (fun q => by cases q) (fm_put79 hinj), (List.forall_mem_cons.mpr ⟨fw_row nn_PM10_ok (x := 45) (k := 2) (mn := 87) (np := 2) (ob := false) (ci := 0) (⟨"NameNotes", "at", "([JI)J"⟩, prog_1_method_85_code, 2, (Option.some Jvm.ClassFile.FieldType.long), 2, false, 2) rfl (by decide +kernel) rfl rfl (by decide) (fun q => by cases q) (fm_atj hinj), (List.forall_mem_cons.mpr ⟨fw_row nn_PM10_ok (x := 51) (k := 2) (mn := 27) (np := 3) (ob := false) (ci := 0) (⟨"NameNotes", "put", "([III)V"⟩, prog_1_method_86_code, 3, (Option.none : Option Jvm.ClassFile.FieldType), 3, false, 4) rfl (by decide +kernel) rfl rfl (by decide) (fun q => by cases q) (fm_put80 hinj), (fun _ h => absurd h List.not_mem_nil)⟩)⟩)⟩) (fun as σ K h => by
  obtain ⟨side, n, m, a, b, c, rfl, ⟨rfl, rfl, rfl⟩, ⟨hs, hn, hm⟩, hC, hV, h⟩ := h
  unfold du_u dl_r dl_st at h
  obtain ⟨i, ei⟩ : ∃ i : Nat, i = 10 * side + n := ⟨_, rfl⟩
  obtain ⟨o, eo⟩ : ∃ o : Nat, o = 10 - 10 * side := ⟨_, rfl⟩
  rw [← ei, ← eo] at h
  rw [← eo] at hC hV
  obtain ⟨V, eV⟩ : ∃ V : Nat → Int, V = fun b => σ 79 (o + b) := ⟨_, rfl⟩
  have hVb : ∀ b : Nat, σ 79 (o + b) = V b := fun b => by rw [eV]
  rw [← eV] at h
  generalize hR : dl_s 976299632280 V m (if n = 0 then -1 else 976299632280 - σ 78 (o + n), 0) = R at h
  have ci : fw_c ((side : Int) * 10 + (n : Int)) = (i : Int) := by
    rw [show (side : Int) * 10 + (n : Int) = (i : Int) by omega]
    exact fw_s (by omega) (by omega)
  have cj : ∀ b : Nat, b < 10 → fw_c ((1 - (side : Int)) * 10 + (b : Int)) = ((o + b : Nat) : Int) := fun b hb => by
    rw [show (1 - (side : Int)) * 10 + (b : Int) = ((o + b : Nat) : Int) by omega]
    exact fw_s (by omega) (by omega)
  refine ⟨rfl, fun G hG => ?_⟩
  have loop : ∀ (f b : Nat) (v mv : Int) (o3 o6 o9 o10 : Option ab_AV), b = f → b ≤ m → (-1 ≤ v ∧ v ≤ 976299632280) → (0 ≤ mv ∧ mv ≤ 9) → dl_s 976299632280 V b (v, mv) = R → G 41 [some (2, 77, 0), some (0, 0, (side : Int)), some (0, 0, (n : Int)), o3, some (0, 0, (1 - (side : Int)) * 10), some (1, 0, v), o6, some (0, 0, mv), some (0, 0, (b : Int)), o9, o10] [] σ := by
    intro f
    induction f with
    | zero =>
      intro b v mv o3 o6 o9 o10 hb hbm hv hmv e
      have cb : fw_c (b : Int) = (b : Int) := oz_c9 b (by omega)
      have e2 : (v, mv) = R := by rw [← e, hb]; rfl
      refine fs_speakBest_41 hG ?_
      rw [cb]
      refine ⟨fun _ => ⟨_, _, rfl, fun _ => ?_, fun z => absurd (by rw [ci]; omega) z⟩, fun z => absurd z (by omega)⟩
      rw [ci, Int.toNat_natCast, fw_d_id (x := v) (by omega) (by omega)]
      refine fs_speakBest_101 hG ⟨_, _, rfl, fun _ => ?_, fun z => absurd (by rw [ci]; omega) z⟩
      rw [ci, Int.toNat_natCast, fw_s (x := mv) (by omega) (by omega)]
      refine fs_speakBest_116 hG ?_
      rw [← e2] at h
      exact h
    | succ f ih =>
      intro b v mv o3 o6 o9 o10 hb hbm hv hmv e
      subst hb
      have cb : fw_c ((f + 1 : Nat) : Int) = ((f + 1 : Nat) : Int) := oz_c9 (f + 1) (by omega)
      have vb := hV (f + 1) (by omega) hbm
      rw [hVb (f + 1)] at vb
      refine fs_speakBest_41 hG ?_
      rw [cb]
      refine ⟨fun z => absurd z (by omega), fun _ => ⟨(79, 20), by decide, _, rfl, fun _ => ?_, fun z => absurd (by rw [cj (f + 1) (by omega)]; show _ ∧ _ < (20 : Int); omega) z⟩⟩
      rw [cj (f + 1) (by omega), Int.toNat_natCast]
      refine fs_speakBest_61 hG ?_
      rw [hVb (f + 1), fw_d_id (x := 976299632280 - V (f + 1)) (by omega) (by omega), fw_d_id (x := v) (by omega) (by omega)]
      rw [dl_ss] at e
      refine ⟨fun z => fs_speakBest_80 hG ?_, fun z => fs_speakBest_80 hG ?_⟩
      · rw [if_neg (by omega)] at e
        have g := ih f v mv o3 o6 (some (1, 0, 976299632280 - V (f + 1))) none rfl (by omega) hv hmv e
        rw [show ((f : Nat) : Int) = ((f + 1 : Nat) : Int) + (-1) by omega] at g
        exact g
      · rw [if_pos z] at e
        have g := ih f (976299632280 - V (f + 1)) ((f + 1 : Nat) : Int) o3 none (some (1, 0, 976299632280 - V (f + 1))) none rfl (by omega) (by omega) (by omega) e
        rw [show ((f : Nat) : Int) = ((f + 1 : Nat) : Int) + (-1) by omega] at g
        exact g
  refine fs_speakBest_0 hG ?_
  rw [oz_c9 n hn]
  refine ⟨fun z => fs_speakBest_33 hG ?_, fun z => ⟨(78, 20), by decide, _, rfl, fun _ => ?_, fun y => absurd (by rw [cj n hn]; show _ ∧ _ < (20 : Int); omega) y⟩⟩
  · rw [if_pos (show n = 0 by omega)] at hR
    exact loop m m (-1) 0 _ _ _ _ rfl (Nat.le_refl m) (by decide) (by decide) hR
  · rw [cj n hn, Int.toNat_natCast]
    rw [if_neg (show ¬ n = 0 by omega)] at hR
    have b := hC (by omega)
    exact fs_speakBest_26 hG (fs_speakBest_33 hG (loop m m (976299632280 - σ 78 (o + n)) 0 _ _ _ _ rfl (Nat.le_refl m) (by omega) (by decide) hR)))
theorem fm_doBest (hinj : nn_inj ad) : fw_H l cy ad wr cr D 94 2 sp_doBest := fw_mk hinj (⟨"NameNotes$Duel", "doBest", "(I)V"⟩, prog_2_method_3_code, 3, (Option.none : Option Jvm.ClassFile.FieldType), 1, true, 4) rfl rfl nn_KI10_ok nn_KJ10_ok nn_PF10_ok nn_PS10_ok (by decide +kernel) rfl rfl (List.forall_mem_cons.mpr ⟨fw_row nn_PM10_ok (x := 39) (k := 0) (mn := 95) (np := 3) (ob := true) (ci := 0) (⟨"NameNotes$Duel", "speakBest", "(III)V"⟩, prog_2_method_4_code, 11, (Option.none : Option Jvm.ClassFile.FieldType), 3, true, 4) rfl (by decide +kernel) rfl rfl (by decide) (fun _ => ⟨_, _, rfl⟩) (fm_speakBest hinj), (fun _ h => absurd h List.not_mem_nil)⟩) (fun as σ K h => by
  obtain ⟨f, rfl, hf, hC, h⟩ := h
  have c9 : fw_c 9 = 9 := fw_s (by decide) (by decide)
  refine ⟨rfl, fun G hG => fs_doBest_0 hG ?_⟩
  have rd : ∀ {S : Nat → Prop} {τ : ab_SG} {st : (Nat → Int) × (Nat → Int)} {side m : Nat}, du_A S τ st → dl_B st → (∀ b : Nat, 1 ≤ b → b ≤ m → S (10 - 10 * side + b)) → ∀ b : Nat, 1 ≤ b → b ≤ m → 0 ≤ τ 79 (10 - 10 * side + b) ∧ τ 79 (10 - 10 * side + b) ≤ 976299632280 := by
    intro S τ st side m hA hB hS b h1 h2
    rw [(hA _ (hS b h1 h2)).1]
    exact (hB _).1
  have loop : ∀ (g k : Nat) (τ : ab_SG), k + g = 9 → ab_okM du_B σ τ → du_A (fun i => i < 20 ∧ 1 ≤ i % 10 ∧ i % 10 ≤ k) τ (dl_n (σ 78) f k) → G 2 [some (2, 77, 0), some (0, 0, (f : Int)), some (0, 0, ((k + 1 : Nat) : Int))] [] τ := by
    intro g
    induction g with
    | zero =>
      intro k τ hk M I
      have ek : k = 9 := by omega
      subst ek
      have B := dl_nb hC hf 9
      have e78 := du_B78 M
      have S0 : ∀ b : Nat, 1 ≤ b → b ≤ f → (fun i => i < 20 ∧ 1 ≤ i % 10 ∧ i % 10 ≤ 9) (10 - 10 * 0 + b) := fun b h1 h2 => by show _ ∧ _ ∧ _; omega
      have A1 := du_uA (n := 0) (C := σ 78) I e78 S0
      have B1 := dl_1b (n := 0) (m := f) B hC (show 0 < 2 by decide) (by decide) (by omega) (fun _ => hf.1) (fun z => absurd rfl z)
      have M1 := du_uM M 0 0 f
      have S1 : ∀ b : Nat, 1 ≤ b → b ≤ f → (fun i => (i < 20 ∧ 1 ≤ i % 10 ∧ i % 10 ≤ 9) ∨ i = 10 * 0 + 0) (10 - 10 * 1 + b) := fun b h1 h2 => Or.inl (by omega)
      have A2 := du_uA (n := 0) (C := σ 78) A1 (du_B78 M1) S1
      refine fs_doBest_2 hG ?_
      rw [c9, fw_s (x := ((9 + 1 : Nat) : Int)) (by decide) (by decide)]
      refine ⟨fun _ => ⟨0, 0, f, _, _, _, rfl, ⟨rfl, rfl, rfl⟩, ⟨by decide, by decide, by omega⟩, fun z => absurd rfl z, rd I B S0, fs_doBest_39 hG ⟨1, 0, f, _, _, _, rfl, ⟨rfl, rfl, rfl⟩, ⟨by decide, by decide, by omega⟩, fun z => absurd rfl z, rd A1 B1 S1, fs_doBest_46 hG (h _ (du_uM M1 1 0 f) (fun i hi => ?_))⟩⟩, fun z => absurd z (by decide)⟩
      have g := A2 i (by show (_ ∨ _) ∨ _; omega)
      rw [show (10 : Nat) = 9 + 1 from rfl, dl_nt]
      exact g
    | succ g ih =>
      intro k τ hk M I
      have B := dl_nb hC hf k
      have S0 : ∀ b : Nat, 1 ≤ b → b ≤ k → (fun i => i < 20 ∧ 1 ≤ i % 10 ∧ i % 10 ≤ k) (10 - 10 * 0 + b) := fun b h1 h2 => by show _ ∧ _ ∧ _; omega
      have A1 := du_uA (n := k + 1) (C := σ 78) I (du_B78 M) S0
      have B1 := dl_1b (n := k + 1) (m := k) B hC (show 0 < 2 by decide) (by omega) (by omega) (fun z => absurd z (Nat.succ_ne_zero k)) (fun _ => Nat.le_refl _)
      have M1 := du_uM M 0 (k + 1) k
      have S1 : ∀ b : Nat, 1 ≤ b → b ≤ k → (fun i => (i < 20 ∧ 1 ≤ i % 10 ∧ i % 10 ≤ k) ∨ i = 10 * 0 + (k + 1)) (10 - 10 * 1 + b) := fun b h1 h2 => Or.inl (by omega)
      have A2 := du_uA (n := k + 1) (C := σ 78) A1 (du_B78 M1) S1
      refine fs_doBest_2 hG ?_
      rw [c9, oz_c9 (k + 1) (by omega)]
      refine ⟨fun z => absurd z (by omega), fun _ => ⟨0, k + 1, k, _, _, _, rfl, ⟨rfl, rfl, by omega⟩, ⟨by decide, by omega, by omega⟩, fun _ => ?_, rd I B S0, fs_doBest_17 hG ⟨1, k + 1, k, _, _, _, rfl, ⟨rfl, rfl, by omega⟩, ⟨by decide, by omega, by omega⟩, fun _ => ?_, rd A1 B1 S1, fs_doBest_26 hG ?_⟩⟩⟩
      · rw [du_B78 M]
        exact hC _ (by omega) (by omega)
      · rw [du_B78 M1]
        exact hC _ (by omega) (by omega)
      · have w := ih (k + 1) _ (by omega) (du_uM M1 1 (k + 1) k) (fun i hi => by
          rw [dl_nn _ _ (by omega)]
          exact A2 i (by have := hi.1; have := hi.2.1; have := hi.2.2; show (_ ∨ _) ∨ _; omega))
        rw [show ((k + 1 + 1 : Nat) : Int) = ((k + 1 : Nat) : Int) + 1 from rfl] at w
        exact w
  exact loop 9 0 σ rfl (fw_okM_refl _ _) (fun i hi => absurd hi.2.1 (by have := hi.2.2; omega)))
theorem fm_dvalue (hinj : nn_inj ad) : fw_H l cy ad wr cr D 102 1 sp_dvalue := fw_mk hinj (⟨"NameNotes$Duel", "value", "(II)J"⟩, prog_2_method_7_code, 3, (Option.some Jvm.ClassFile.FieldType.long), 2, true, 2) rfl rfl nn_KI10_ok nn_KJ10_ok nn_PF10_ok nn_PS10_ok (by decide +kernel) rfl rfl (List.forall_mem_cons.mpr ⟨fw_row nn_PM10_ok (x := 45) (k := 2) (mn := 87) (np := 2) (ob := false) (ci := 0) (⟨"NameNotes", "at", "([JI)J"⟩, prog_1_method_85_code, 2, (Option.some Jvm.ClassFile.FieldType.long), 2, false, 2) rfl (by decide +kernel) rfl rfl (by decide) (fun q => by cases q) (fm_atj hinj), (fun _ h => absurd h List.not_mem_nil)⟩) (fun as σ K h => by
  obtain ⟨side, n, a, b, rfl, ⟨rfl, rfl⟩, ⟨hs, hn⟩, h⟩ := h
  have ci : fw_c ((side : Int) * 10 + (n : Int)) = ((10 * side + n : Nat) : Int) := by
    rw [show (side : Int) * 10 + (n : Int) = ((10 * side + n : Nat) : Int) by omega]
    exact fw_s (by omega) (by omega)
  refine ⟨rfl, fun G hG => fs_dvalue_0 hG ⟨(79, 20), by decide, _, rfl, fun _ => ?_, fun z => absurd (by rw [ci]; show _ ∧ _ < (20 : Int); omega) z⟩⟩
  rw [ci, Int.toNat_natCast]
  exact fs_dvalue_13 hG h)
theorem fm_dmove (hinj : nn_inj ad) : fw_H l cy ad wr cr D 96 1 sp_dmove := fw_mk hinj (⟨"NameNotes$Duel", "move", "(II)I"⟩, prog_2_method_8_code, 3, (Option.some Jvm.ClassFile.FieldType.int), 2, true, 0) rfl rfl nn_KI10_ok nn_KJ10_ok nn_PF10_ok nn_PS10_ok (by decide +kernel) rfl rfl (List.forall_mem_cons.mpr ⟨fw_row nn_PM10_ok (x := 61) (k := 2) (mn := 29) (np := 2) (ob := false) (ci := 0) (⟨"NameNotes", "at", "([II)I"⟩, prog_1_method_84_code, 2, (Option.some Jvm.ClassFile.FieldType.int), 2, false, 0) rfl (by decide +kernel) rfl rfl (by decide) (fun q => by cases q) (fm_at80 hinj), (fun _ h => absurd h List.not_mem_nil)⟩) (fun as σ K h => by
  obtain ⟨side, n, a, b, rfl, ⟨rfl, rfl⟩, ⟨hs, hn⟩, h⟩ := h
  have ci : fw_c ((side : Int) * 10 + (n : Int)) = ((10 * side + n : Nat) : Int) := by
    rw [show (side : Int) * 10 + (n : Int) = ((10 * side + n : Nat) : Int) by omega]
    exact fw_s (by omega) (by omega)
  refine ⟨rfl, fun G hG => fs_dmove_0 hG ⟨_, rfl, fun _ => ?_, fun z => absurd (by rw [ci]; omega) z⟩⟩
  rw [ci, Int.toNat_natCast]
  exact fs_dmove_13 hG h)
theorem fm_hear (hinj : nn_inj ad) : fw_H l cy ad wr cr D 93 4 sp_hear := fw_mk hinj (⟨"NameNotes$Duel", "hear", "(LNameNotes$Studio;LNameNotes$Ear;III)V"⟩, prog_2_method_2_code, 7, (Option.none : Option Jvm.ClassFile.FieldType), 5, true, 4) rfl rfl nn_KI10_ok nn_KJ10_ok nn_PF10_ok nn_PS10_ok (by decide +kernel) rfl rfl (List.forall_mem_cons.mpr ⟨fw_row nn_PM10_ok (x := 22) (k := 0) (mn := 83) (np := 3) (ob := true) (ci := 1) (⟨"NameNotes$Ear", "group", "(LNameNotes$Studio;II)V"⟩, prog_3_method_2_code, 5, (Option.none : Option Jvm.ClassFile.FieldType), 3, true, 4) rfl (by decide +kernel) rfl rfl (by decide) (fun _ => ⟨_, _, rfl⟩) (fm_group hinj), (List.forall_mem_cons.mpr ⟨fw_row nn_PM10_ok (x := 28) (k := 0) (mn := 84) (np := 3) (ob := true) (ci := 1) (⟨"NameNotes$Ear", "listen", "(LNameNotes$Studio;II)V"⟩, prog_3_method_3_code, 5, (Option.none : Option Jvm.ClassFile.FieldType), 3, true, 4) rfl (by decide +kernel) rfl rfl (by decide) (fun _ => ⟨_, _, rfl⟩) (fm_listen hinj), (List.forall_mem_cons.mpr ⟨fw_row nn_PM10_ok (x := 31) (k := 0) (mn := 85) (np := 0) (ob := true) (ci := 1) (⟨"NameNotes$Ear", "chance", "()J"⟩, prog_3_method_6_code, 4, (Option.some Jvm.ClassFile.FieldType.long), 0, true, 2) rfl (by decide +kernel) rfl rfl (by decide) (fun _ => ⟨_, _, rfl⟩) (fm_chance hinj), (List.forall_mem_cons.mpr ⟨fw_row nn_PM10_ok (x := 35) (k := 2) (mn := 26) (np := 3) (ob := false) (ci := 0) (⟨"NameNotes", "put", "([JIJ)V"⟩, prog_1_method_87_code, 4, (Option.none : Option Jvm.ClassFile.FieldType), 3, false, 4) rfl (by decide +kernel) rfl rfl (by decide) (fun q => by cases q) (fm_put78 hinj), (fun _ h => absurd h List.not_mem_nil)⟩)⟩)⟩)⟩) (fun as σ K h => by
  obtain ⟨A, p, q, s, rfl, hN, hp, hq, hs, ht, h⟩ := h
  have c9 : fw_c 9 = 9 := fw_s (by decide) (by decide)
  refine ⟨rfl, fun G hG => fs_hear_0 hG ?_⟩
  have loop : ∀ (f n : Nat) (τ : ab_SG), n + f = 10 → 1 ≤ n → ab_okM du_H σ τ → (∀ m : Nat, 1 ≤ m → m < n → τ 78 m = oz_odds A p (m : Int) s ∧ τ 78 (10 + m) = oz_odds A q (m : Int) s) → G 3 [some (2, 77, 0), some (2, 3, 0), some (2, 73, 0), some (0, 0, (p : Int)), some (0, 0, (q : Int)), some (0, 0, s), some (0, 0, (n : Int))] [] τ := by
    intro f
    induction f with
    | zero =>
      intro n τ hn h0 M I
      refine fs_hear_3 hG ?_
      rw [c9, fw_s (x := (n : Int)) (by omega) (by omega)]
      refine ⟨fun _ => h τ M (fun i hi hm => ?_), fun z => absurd z (by omega)⟩
      unfold v_ch
      by_cases c : i < 10
      · rw [if_pos c]
        exact (I i (by omega) (by omega)).1
      · rw [if_neg c]
        have e := (I (i - 10) (by omega) (by omega)).2
        rw [show 10 + (i - 10) = i by omega] at e
        exact e
    | succ f ih =>
      intro n τ hn h0 M I
      have cn : fw_c (n : Int) = (n : Int) := fw_s (by omega) (by omega)
      have c10 : fw_c (10 + (n : Int)) = ((10 + n : Nat) : Int) := by
        rw [show 10 + (n : Int) = ((10 + n : Nat) : Int) by omega]
        exact fw_s (by omega) (by omega)
      have Nt := oz_NCM M (by decide +kernel) hN
      have bp := oz_odds_b Nt hp (n := (n : Int)) hs
      have bq := oz_odds_b Nt hq (n := (n : Int)) hs
      have kb : ∀ {p : Nat}, p < 5 → ∀ y : Nat, y < 9 → 0 ≤ A 55 (9 * p + y) ∧ A 55 (9 * p + y) ≤ 9 := fun hp y hy => oz_kn_b Nt (by omega)
      have gb := fun x : Nat => oz_grp_b Nt.1 (n : Int) s x
      refine fs_hear_3 hG ?_
      rw [c9, cn]
      refine ⟨fun z => absurd z (by omega), fun _ => ⟨A, (n : Int), s, rfl, Nt, by omega, by omega, ht, fun σ1 M1 e1 I1 => fs_hear_19 hG ⟨A, p, 0, rfl, oz_NCM M1 (by decide +kernel) Nt, hp, by decide, fun σ2 M2 e2 I2 J2 => fs_hear_26 hG ⟨s, rfl, e2.trans e1, hs, fun x hx => by rw [I2 x, I1 x hx]; exact gb x, fun y hy => by rw [J2 y hy, if_neg (by rw [hs_0 y hy]; exact Bool.false_ne_true)]; exact kb hp y hy, fs_hear_36 hG ?_⟩⟩⟩⟩
      rw [du_ch J2 (fun x hx => (I2 x).trans (I1 x hx))]
      refine ⟨_, _, rfl, fun _ => ?_, fun z => absurd (by rw [cn]; omega) z⟩
      rw [cn, Int.toNat_natCast, fw_d_id (x := oz_odds A p (n : Int) s) (by omega) (by omega)]
      have Mm : ab_okM du_H τ (ab_ups σ2 78 n (oz_odds A p (n : Int) s)) := fw_okM_upa (on_trans (od_up M1 (by decide)) (od_up M2 (by decide))) (by decide)
      have m73 : (ab_ups σ2 78 n (oz_odds A p (n : Int) s)) 73 3 = s := by rw [ab_ups_ne (fun z => absurd z.1 (by decide))]; exact e2.trans e1
      have m75 : ∀ x : Nat, x < 9 → (ab_ups σ2 78 n (oz_odds A p (n : Int) s)) 75 x = oz_grp A (n : Int) s x := fun x hx => by rw [ab_ups_ne (fun z => absurd z.1 (by decide))]; exact (I2 x).trans (I1 x hx)
      have m78 : ∀ j : Nat, (ab_ups σ2 78 n (oz_odds A p (n : Int) s)) 78 j = if j = n then oz_odds A p (n : Int) s else τ 78 j := fun j => by
        by_cases c : j = n
        · rw [if_pos c, c, ab_ups_eq]
        · rw [if_neg c, ab_ups_ne (fun z => c z.2), du_78 M2, du_78 M1]
      generalize ab_ups σ2 78 n (oz_odds A p (n : Int) s) = ρ at Mm m73 m75 m78 ⊢
      refine fs_hear_39 hG ⟨A, q, 0, rfl, oz_NCM Mm (by decide +kernel) Nt, hq, by decide, fun σ3 M3 e3 I3 J3 => fs_hear_47 hG ⟨s, rfl, e3.trans m73, hs, fun x hx => by rw [I3 x, m75 x hx]; exact gb x, fun y hy => by rw [J3 y hy, if_neg (by rw [hs_0 y hy]; exact Bool.false_ne_true)]; exact kb hq y hy, fs_hear_60 hG ?_⟩⟩
      rw [du_ch J3 (fun x hx => (I3 x).trans (m75 x hx))]
      refine ⟨_, _, rfl, fun _ => ?_, fun z => absurd (by rw [c10]; omega) z⟩
      rw [c10, Int.toNat_natCast, fw_d_id (x := oz_odds A q (n : Int) s) (by omega) (by omega)]
      refine fs_hear_63 hG ?_
      have k := ih (n + 1) (ab_ups σ3 78 (10 + n) (oz_odds A q (n : Int) s)) (by omega) (by omega) (on_trans M (fw_okM_upa (on_trans Mm (od_up M3 (by decide))) (by decide))) (fun m h1 h2 => by
        rw [ab_ups_ne (b := m) (fun z => by have := z.2; omega), du_78 M3, m78 m]
        by_cases c : m = n
        · rw [if_pos c, c, ab_ups_eq]
          exact ⟨rfl, rfl⟩
        · rw [if_neg c, ab_ups_ne (fun z => by have := z.2; omega), du_78 M3, m78, if_neg (by omega)]
          exact I m h1 (by omega))
      rw [show ((n + 1 : Nat) : Int) = (n : Int) + 1 from rfl] at k
      exact k
  exact loop 9 1 σ rfl (Nat.le_refl 1) (fw_okM_refl _ _) (fun m h1 h2 => absurd h1 (by omega)))
theorem fm_canBid (hinj : nn_inj ad) : fw_H l cy ad wr cr D 91 2 sp_canBid := fw_mk hinj (⟨"NameNotes", "canBid", "(IIII)Z"⟩, prog_1_method_62_code, 5, (Option.some Jvm.ClassFile.FieldType.boolean), 4, true, 1) rfl rfl nn_KI1_ok nn_KJ1_ok nn_PF1_ok nn_PS1_ok (by decide +kernel) rfl rfl (List.forall_mem_cons.mpr ⟨fw_row nn_PM1_ok (x := 166) (k := 0) (mn := 63) (np := 1) (ob := true) (ci := 6) (⟨"NameNotes$Studio", "isClue", "(I)Z"⟩, prog_8_method_5_code, 2, (Option.some Jvm.ClassFile.FieldType.boolean), 1, true, 1) rfl (by decide +kernel) rfl rfl (by decide) (fun _ => ⟨_, _, rfl⟩) (fm_isClue3 hinj), (List.forall_mem_cons.mpr ⟨fw_row nn_PM1_ok (x := 173) (k := 0) (mn := 67) (np := 1) (ob := true) (ci := 6) (⟨"NameNotes$Studio", "isPerson", "(I)Z"⟩, prog_8_method_6_code, 2, (Option.some Jvm.ClassFile.FieldType.boolean), 1, true, 1) rfl (by decide +kernel) rfl rfl (by decide) (fun _ => ⟨_, _, rfl⟩) (fm_isPerson3 hinj), (List.forall_mem_cons.mpr ⟨fw_row nn_PM1_ok (x := 184) (k := 0) (mn := 71) (np := 1) (ob := false) (ci := 0) (⟨"NameNotes", "isBid", "(I)Z"⟩, prog_1_method_72_code, 1, (Option.some Jvm.ClassFile.FieldType.boolean), 1, false, 1) rfl (by decide +kernel) rfl rfl (by decide) (fun q => by cases q) (fm_isBid hinj), (fun _ h => absurd h List.not_mem_nil)⟩)⟩)⟩) (fun as σ K h => by
  obtain ⟨A, p, q, n, c, rfl, ⟨ep, eq, en, ec⟩, hN, h⟩ := h
  have no : ¬ v_bd A p q n c → (0 ≤ fw_c 0 ∧ fw_c 0 ≤ 1) ∧ K (some (0, 0, 0)) σ := fun z => ⟨fw_01, by rw [fw_bo_f z] at h; exact h⟩
  refine ⟨rfl, fun G hG => fs_canBid_0 hG ⟨p, rfl, fs_canBid_8 hG ?_⟩⟩
  rw [oz_c_pe hN ep]
  refine ⟨fun z => no (fun w => fw_bo_eq z w.1), fun z1 => ⟨q, rfl, fs_canBid_19 hG ?_⟩⟩
  rw [oz_c_pe hN eq]
  refine ⟨fun z => no (fun w => fw_bo_eq z w.2.1), fun z2 => ⟨fun z => no (fun w => w.2.2.1 (by rw [ep, eq] at z; exact z)), fun z3 => ?_⟩⟩
  rw [ep, eq] at z3
  have clue : (0 ≤ n ∧ n ≤ 9) → G 38 [some (2, 0, 0), some (0, 0, p), some (0, 0, q), some (0, 0, n), some (0, 0, c)] [] σ := fun hn => fs_canBid_38 hG ⟨A, c, rfl, ec, hN, fs_canBid_47 hG ⟨fun z => no (fun w => fw_bo_eq z w.2.2.2.2), fun z4 => ⟨by rw [fw_c1]; decide, by
    rw [fw_bo_t ⟨fw_bo_ne z1, fw_bo_ne z2, z3, hn, fw_bo_ne z4⟩] at h
    exact h⟩⟩⟩
  rw [en]
  refine ⟨fun z => clue (by omega), fun z => ⟨n, rfl, en, fs_canBid_35 hG ⟨fun y => no (fun w => fw_bo_eq y ⟨by have := w.2.2.2.1.1; omega, w.2.2.2.1.2⟩), fun y => clue (by have := fw_bo_ne y; omega)⟩⟩⟩)
theorem fm_weigh (hinj : nn_inj ad) : fw_H l cy ad wr cr D 92 5 sp_weigh := fw_mk hinj (⟨"NameNotes", "weigh", "(III)V"⟩, prog_1_method_66_code, 4, (Option.none : Option Jvm.ClassFile.FieldType), 3, true, 4) rfl rfl nn_KI1_ok nn_KJ1_ok nn_PF1_ok nn_PS1_ok (by decide +kernel) rfl rfl (List.forall_mem_cons.mpr ⟨fw_row nn_PM1_ok (x := 169) (k := 0) (mn := 64) (np := 1) (ob := true) (ci := 6) (⟨"NameNotes$Studio", "setOf", "(I)I"⟩, prog_8_method_8_code, 2, (Option.some Jvm.ClassFile.FieldType.int), 1, true, 0) rfl (by decide +kernel) rfl rfl (by decide) (fun _ => ⟨_, _, rfl⟩) (fm_setOf3 hinj), (List.forall_mem_cons.mpr ⟨fw_row nn_PM1_ok (x := 463) (k := 0) (mn := 93) (np := 5) (ob := true) (ci := 0) (⟨"NameNotes$Duel", "hear", "(LNameNotes$Studio;LNameNotes$Ear;III)V"⟩, prog_2_method_2_code, 7, (Option.none : Option Jvm.ClassFile.FieldType), 5, true, 4) rfl (by decide +kernel) rfl rfl (by decide) (fun _ => ⟨_, _, rfl⟩) (fm_hear hinj), (List.forall_mem_cons.mpr ⟨fw_row nn_PM1_ok (x := 467) (k := 0) (mn := 94) (np := 1) (ob := true) (ci := 0) (⟨"NameNotes$Duel", "doBest", "(I)V"⟩, prog_2_method_3_code, 3, (Option.none : Option Jvm.ClassFile.FieldType), 1, true, 4) rfl (by decide +kernel) rfl rfl (by decide) (fun _ => ⟨_, _, rfl⟩) (fm_doBest hinj), (fun _ h => absurd h List.not_mem_nil)⟩)⟩)⟩) (fun as σ K h => by
  obtain ⟨A, p, q, c, rfl, hN, hb, h⟩ := h
  have nn := N_n hN.1
  obtain ⟨h1, h2, h3, h4, h5⟩ := hb
  obtain ⟨p, rfl⟩ := Int.eq_ofNat_of_zero_le h1.1
  obtain ⟨q, rfl⟩ := Int.eq_ofNat_of_zero_le h2.1
  have fb := hN.2.1.2.2.2.2
  have e14 : ∀ τ : ab_SG, NC τ A → τ 3 14 = A 49 14 := fun τ t => t.2.2.2.2.2.1
  obtain ⟨f, ef⟩ := Int.eq_ofNat_of_zero_le (show 0 ≤ A 49 14 by omega)
  have cl := oz_clue hN.1 hN.2.1 h5.1 h5.2
  unfold v_du at h
  rw [ef] at h fb
  rw [Int.toNat_natCast, Int.toNat_natCast, Int.toNat_natCast] at h
  refine ⟨rfl, fun G hG => fs_weigh_0 hG ⟨A, c, rfl, hN, by omega, fs_weigh_22 hG ⟨A, p, q, v_set A c, rfl, hN, by omega, by omega, cl.1, cl.2, fun σ1 M1 I1 => fs_weigh_25 hG ?_⟩⟩⟩
  have N1 := oz_NCM M1 (by decide +kernel) hN
  have cb := v_chb hN (show p < 5 by omega) (show q < 5 by omega) cl.1
  rw [e14 σ1 N1, ef]
  refine ⟨f, rfl, by omega, fun i hi hm => by rw [I1 i hi hm]; exact cb i hi hm, fun σ2 M2 I2 => fs_weigh_39 hG (h σ2 (on_trans (od_up M1 (by decide)) (od_up M2 (by decide))) (fun i hi => ?_))⟩
  rw [← dl_nc I1 10]
  exact I2 i hi)
theorem fm_lastBid (hinj : nn_inj ad) : fw_H l cy ad wr cr D 104 2 sp_lastBid := fw_mk hinj (⟨"NameNotes$Duel", "lastBid", "()I"⟩, prog_2_method_9_code, 5, (Option.some Jvm.ClassFile.FieldType.int), 0, true, 0) rfl rfl nn_KI10_ok nn_KJ10_ok nn_PF10_ok nn_PS10_ok (by decide +kernel) rfl rfl (List.forall_mem_cons.mpr ⟨fw_row nn_PM10_ok (x := 64) (k := 0) (mn := 96) (np := 2) (ob := true) (ci := 0) (⟨"NameNotes$Duel", "move", "(II)I"⟩, prog_2_method_8_code, 3, (Option.some Jvm.ClassFile.FieldType.int), 2, true, 0) rfl (by decide +kernel) rfl rfl (by decide) (fun _ => ⟨_, _, rfl⟩) (fm_dmove hinj), (fun _ h => absurd h List.not_mem_nil)⟩) (fun as σ K h => by
  obtain ⟨rfl, hB, h⟩ := h
  have c9 : fw_c 9 = 9 := fw_s (by decide) (by decide)
  refine ⟨rfl, fun G hG => fs_lastBid_0 hG ⟨0, 0, _, _, rfl, ⟨rfl, rfl⟩, ⟨by decide, by decide⟩, fs_lastBid_10 hG ?_⟩⟩
  have loop : ∀ (f i side last : Nat), i + f = 9 → side < 2 → last < 10 → σ 80 (10 * side + last) ≤ (f : Int) → lo_f (σ 80) (f + 1) side last = lo_f (σ 80) 10 0 0 → G 14 [some (2, 77, 0), some (0, 0, (side : Int)), some (0, 0, (last : Int)), some (0, 0, σ 80 (10 * side + last)), some (0, 0, (i : Int))] [] σ := by
    intro f
    induction f with
    | zero =>
      intro i side last hi hs hl hm e
      have b := (hB (10 * side + last) (by omega)).1
      refine fs_lastBid_14 hG ?_
      rw [c9, fw_s (x := (i : Int)) (by omega) (by omega)]
      refine ⟨fun _ => ?_, fun z => absurd z (by omega)⟩
      rw [lo_s, if_pos (by omega)] at e
      rw [← e] at h
      exact h
    | succ f ih =>
      intro i side last hi hs hl hm e
      have b := (hB (10 * side + last) (by omega)).1
      refine fs_lastBid_14 hG ?_
      rw [c9, fw_s (x := (i : Int)) (by omega) (by omega), fw_s (x := σ 80 (10 * side + last)) (by omega) (by omega)]
      refine ⟨fun z => absurd z (by omega), fun _ => ⟨fun z => ?_, fun z => ?_⟩⟩
      · rw [lo_s, if_pos (by omega)] at e
        rw [← e] at h
        exact h
      · rw [lo_s, if_neg (by omega)] at e
        obtain ⟨k, ek⟩ := Int.eq_ofNat_of_zero_le b.1
        rw [ek] at z e hm ⊢
        rw [Int.toNat_natCast] at e
        have b2 := hB (10 * (1 - side) + k) (by omega)
        have g := ih (i + 1) (1 - side) k (by omega) (by omega) (by omega) (by have := b2.2 (by omega); omega) e
        rw [show ((1 - side : Nat) : Int) = 1 - (side : Int) by omega, show ((i + 1 : Nat) : Int) = (i : Int) + 1 from rfl] at g
        exact ⟨1 - side, k, _, _, rfl, ⟨by omega, rfl⟩, ⟨by omega, by omega⟩, fs_lastBid_37 hG g⟩
  exact loop 9 0 0 0 rfl (by decide) (by decide) (hB 0 (by decide)).1.2 rfl)
theorem du_B20 {σ A : ab_SG} {p q c : Int} (hN : NC σ A) (hb : v_bd A p q 0 c) : dl_B (v_du A p q c) := by
  have nn := N_n hN.1
  have fb := hN.2.1.2.2.2.2
  exact dl_nb (v_chb hN (by omega) (by omega) (oz_clue hN.1 hN.2.1 hb.2.2.2.2.1 hb.2.2.2.2.2).1) ⟨by omega, by omega⟩ 10
theorem fm_best (hinj : nn_inj ad) : fw_H l cy ad wr cr D 90 6 sp_best := fw_mk hinj (⟨"NameNotes", "best", "(IIII)I"⟩, prog_1_method_18_code, 5, (Option.some Jvm.ClassFile.FieldType.int), 4, true, 0) rfl rfl nn_KI1_ok nn_KJ1_ok nn_PF1_ok nn_PS1_ok (by decide +kernel) rfl rfl (List.forall_mem_cons.mpr ⟨fw_row nn_PM1_ok (x := 239) (k := 0) (mn := 91) (np := 4) (ob := true) (ci := 10) (⟨"NameNotes", "canBid", "(IIII)Z"⟩, prog_1_method_62_code, 5, (Option.some Jvm.ClassFile.FieldType.boolean), 4, true, 1) rfl (by decide +kernel) rfl rfl (by decide) (fun _ => ⟨_, _, rfl⟩) (fm_canBid hinj), (List.forall_mem_cons.mpr ⟨fw_row nn_PM1_ok (x := 242) (k := 0) (mn := 92) (np := 3) (ob := true) (ci := 10) (⟨"NameNotes", "weigh", "(III)V"⟩, prog_1_method_66_code, 4, (Option.none : Option Jvm.ClassFile.FieldType), 3, true, 4) rfl (by decide +kernel) rfl rfl (by decide) (fun _ => ⟨_, _, rfl⟩) (fm_weigh hinj), (List.forall_mem_cons.mpr ⟨fw_row nn_PM1_ok (x := 246) (k := 0) (mn := 96) (np := 2) (ob := true) (ci := 0) (⟨"NameNotes$Duel", "move", "(II)I"⟩, prog_2_method_8_code, 3, (Option.some Jvm.ClassFile.FieldType.int), 2, true, 0) rfl (by decide +kernel) rfl rfl (by decide) (fun _ => ⟨_, _, rfl⟩) (fm_dmove hinj), (fun _ h => absurd h List.not_mem_nil)⟩)⟩)⟩) (fun as σ K h => by
  obtain ⟨A, p, q, n, c, rfl, ee, hN, h⟩ := h
  refine ⟨rfl, fun G hG => fs_best_0 hG ⟨A, p, q, n, c, rfl, ee, hN, fs_best_9 hG ⟨fun z => ?_, fun z => ?_⟩⟩⟩
  · have hb := fw_bo_ne z
    refine ⟨A, p, q, c, rfl, hN, ⟨hb.1, hb.2.1, hb.2.2.1, by decide, hb.2.2.2.2⟩, fun σ1 M1 I1 => fs_best_22 hG ⟨0, n.toNat, _, _, rfl, ⟨rfl, by have := hb.2.2.2.1; omega⟩, ⟨by decide, by have := hb.2.2.2.1; omega⟩, fs_best_31 hG ?_⟩⟩
    rw [show 10 * 0 + n.toNat = n.toNat by omega, (I1 n.toNat (by have := hb.2.2.2.1; omega)).2]
    have k := h σ1 M1
    unfold v_best at k
    rw [if_pos hb] at k
    exact k
  · have k := h σ (fw_okM_refl _ _)
    unfold v_best at k
    rw [if_neg (fw_bo_eq z)] at k
    exact k)
theorem fm_fair (hinj : nn_inj ad) : fw_H l cy ad wr cr D 101 6 sp_fair := fw_mk hinj (⟨"NameNotes", "fair", "(III)I"⟩, prog_1_method_22_code, 8, (Option.some Jvm.ClassFile.FieldType.int), 3, true, 0) rfl rfl nn_KI1_ok nn_KJ1_ok nn_PF1_ok nn_PS1_ok (by decide +kernel) rfl rfl (List.forall_mem_cons.mpr ⟨fw_row nn_PM1_ok (x := 239) (k := 0) (mn := 91) (np := 4) (ob := true) (ci := 10) (⟨"NameNotes", "canBid", "(IIII)Z"⟩, prog_1_method_62_code, 5, (Option.some Jvm.ClassFile.FieldType.boolean), 4, true, 1) rfl (by decide +kernel) rfl rfl (by decide) (fun _ => ⟨_, _, rfl⟩) (fm_canBid hinj), (List.forall_mem_cons.mpr ⟨fw_row nn_PM1_ok (x := 242) (k := 0) (mn := 92) (np := 3) (ob := true) (ci := 10) (⟨"NameNotes", "weigh", "(III)V"⟩, prog_1_method_66_code, 4, (Option.none : Option Jvm.ClassFile.FieldType), 3, true, 4) rfl (by decide +kernel) rfl rfl (by decide) (fun _ => ⟨_, _, rfl⟩) (fm_weigh hinj), (List.forall_mem_cons.mpr ⟨fw_row nn_PM1_ok (x := 249) (k := 0) (mn := 102) (np := 2) (ob := true) (ci := 0) (⟨"NameNotes$Duel", "value", "(II)J"⟩, prog_2_method_7_code, 3, (Option.some Jvm.ClassFile.FieldType.long), 2, true, 2) rfl (by decide +kernel) rfl rfl (by decide) (fun _ => ⟨_, _, rfl⟩) (fm_dvalue hinj), (fun _ h => absurd h List.not_mem_nil)⟩)⟩)⟩) (fun as σ K h => by
  obtain ⟨A, p, q, c, rfl, ⟨ep, eq, ec⟩, hN, h⟩ := h
  have d1 : fw_d 976299632280 = 976299632280 := fw_d_id (by decide) (by decide)
  refine ⟨rfl, fun G hG => fs_fair_0 hG ⟨A, p, q, 0, c, rfl, ⟨ep, eq, fw_c0, ec⟩, hN, fs_fair_8 hG ⟨fun z => ?_, fun z => ?_⟩⟩⟩
  · have hb := fw_bo_ne z
    have B := du_B20 hN hb
    have b0 := (B 0).1
    have b1 := (B 10).1
    refine ⟨A, p, q, c, rfl, hN, hb, fun σ1 M1 I1 => fs_fair_20 hG ⟨0, 0, _, _, rfl, ⟨rfl, rfl⟩, ⟨by decide, by decide⟩, fs_fair_32 hG ⟨1, 0, _, _, rfl, ⟨rfl, rfl⟩, ⟨by decide, by decide⟩, fs_fair_50 hG ?_⟩⟩⟩
    rw [show 10 * 0 + 0 = 0 from rfl, show 10 * 1 + 0 = 10 from rfl, (I1 0 (by decide)).1, (I1 10 (by decide)).1]
    have k := h σ1 M1
    unfold v_fair v_fairV at k
    rw [if_pos hb] at k
    generalize (v_du A p q c).1 0 = a at b0 k ⊢
    generalize (v_du A p q c).1 10 = b at b1 k ⊢
    have f74 : ¬ (976299632280 < 2 * a ∧ 976299632280 < 2 * (976299632280 - b)) → G 74 [some (2, 0, 0), some (0, 0, p), some (0, 0, q), some (0, 0, c), some (1, 0, 2 * a), none, some (1, 0, 2 * (976299632280 - b)), none] [] σ1 := fun no => by
      rw [if_neg no] at k
      refine fs_fair_74 hG ?_
      rw [d1, fw_d_id (x := 2 * a) (by omega) (by omega), fw_d_id (x := 2 * (976299632280 - b)) (by omega) (by omega)]
      refine ⟨fun y => ?_, fun y => ⟨fun y2 => ?_, fun y2 => ?_⟩⟩
      · rw [if_neg (by omega)] at k; exact k
      · rw [if_neg (by omega)] at k; exact k
      · rw [if_pos ⟨y, y2⟩] at k; exact k
    rw [d1, fw_d_id (x := 2 * a) (by omega) (by omega), fw_d_id (x := 2 * (976299632280 - b)) (by omega) (by omega)]
    refine ⟨fun y => f74 (by omega), fun y => ⟨fun y2 => f74 (by omega), fun y2 => ?_⟩⟩
    rw [if_pos ⟨y, y2⟩] at k
    exact k
  · have k := h σ (fw_okM_refl _ _)
    unfold v_fair at k
    rw [if_neg (fw_bo_eq z)] at k
    exact k)
theorem lo_congr {M M' : Nat → Int} (h : ∀ i : Nat, i < 20 → M i = M' i) (hB : ∀ i : Nat, i < 20 → 0 ≤ M i ∧ M i ≤ 9) : ∀ (f side last : Nat), side < 2 → last < 10 → lo_f M f side last = lo_f M' f side last
  | 0, _, _, _, _ => rfl
  | f + 1, side, last, hs, hl => by
    have b := hB (10 * side + last) (by omega)
    rw [lo_s, lo_s, ← h (10 * side + last) (by omega), lo_congr h hB f (1 - side) (M (10 * side + last)).toNat (by omega) (by omega)]
theorem fm_low (hinj : nn_inj ad) : fw_H l cy ad wr cr D 103 6 sp_low := fw_mk hinj (⟨"NameNotes", "low", "(III)I"⟩, prog_1_method_25_code, 4, (Option.some Jvm.ClassFile.FieldType.int), 3, true, 0) rfl rfl nn_KI1_ok nn_KJ1_ok nn_PF1_ok nn_PS1_ok (by decide +kernel) rfl rfl (List.forall_mem_cons.mpr ⟨fw_row nn_PM1_ok (x := 239) (k := 0) (mn := 91) (np := 4) (ob := true) (ci := 10) (⟨"NameNotes", "canBid", "(IIII)Z"⟩, prog_1_method_62_code, 5, (Option.some Jvm.ClassFile.FieldType.boolean), 4, true, 1) rfl (by decide +kernel) rfl rfl (by decide) (fun _ => ⟨_, _, rfl⟩) (fm_canBid hinj), (List.forall_mem_cons.mpr ⟨fw_row nn_PM1_ok (x := 242) (k := 0) (mn := 92) (np := 3) (ob := true) (ci := 10) (⟨"NameNotes", "weigh", "(III)V"⟩, prog_1_method_66_code, 4, (Option.none : Option Jvm.ClassFile.FieldType), 3, true, 4) rfl (by decide +kernel) rfl rfl (by decide) (fun _ => ⟨_, _, rfl⟩) (fm_weigh hinj), (List.forall_mem_cons.mpr ⟨fw_row nn_PM1_ok (x := 266) (k := 0) (mn := 104) (np := 0) (ob := true) (ci := 0) (⟨"NameNotes$Duel", "lastBid", "()I"⟩, prog_2_method_9_code, 5, (Option.some Jvm.ClassFile.FieldType.int), 0, true, 0) rfl (by decide +kernel) rfl rfl (by decide) (fun _ => ⟨_, _, rfl⟩) (fm_lastBid hinj), (fun _ h => absurd h List.not_mem_nil)⟩)⟩)⟩) (fun as σ K h => by
  obtain ⟨A, p, q, c, rfl, ⟨ep, eq, ec⟩, hN, h⟩ := h
  refine ⟨rfl, fun G hG => fs_low_0 hG ⟨A, p, q, 0, c, rfl, ⟨ep, eq, fw_c0, ec⟩, hN, fs_low_8 hG ⟨fun z => ?_, fun z => ?_⟩⟩⟩
  · have hb := fw_bo_ne z
    have B := du_B20 hN hb
    refine ⟨A, p, q, c, rfl, hN, hb, fun σ1 M1 I1 => fs_low_20 hG ⟨rfl, fun i hi => ?_, fs_low_27 hG ?_⟩⟩
    · rw [(I1 i hi).2]
      exact ⟨(B i).2.1, (B i).2.2⟩
    · rw [lo_congr (fun i hi => (I1 i hi).2) (fun i hi => by rw [(I1 i hi).2]; exact (B i).2.1) 10 0 0 (by decide) (by decide)]
      have k := h σ1 M1
      unfold v_low at k
      rw [if_pos hb] at k
      exact k
  · have k := h σ (fw_okM_refl _ _)
    unfold v_low at k
    rw [if_neg (fw_bo_eq z)] at k
    exact k)
end
