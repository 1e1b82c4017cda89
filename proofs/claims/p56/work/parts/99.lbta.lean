section
/-! odds: what of a group she knows, by how many (polynomials as functions of the place), once as the reference sums it, once as the class does -/
def oz_cnt (P : Nat → Bool) : Nat → Nat
  | 0 => 0
  | y + 1 => cond (P y) (oz_cnt P y + 1) (oz_cnt P y)
/-! what the ear holds: rows 74, 75, the set in 73 -/
def oz_P (s : Int) : Nat → Bool := fun y => pr_hs s (y : Int)
def ob1 (x : Int) : Int := x - (fw_op 8 (fw_op 7 x 1) 1431655765)
def ob2 (x : Int) : Int := (fw_op 8 x 858993459) + (fw_op 8 (fw_op 7 x 2) 858993459)
def ob3 (x : Int) : Int := fw_op 8 (x + (fw_op 7 x 4)) 252645135
def ob4 (x : Int) : Int := x + (fw_op 7 x 8)
def ob5 (x : Int) : Int := x + (fw_op 7 x 16)
theorem ob_ex : ∀ s : Nat, s < 512 → fw_op 8 (ob5 (ob4 (ob3 (ob2 (ob1 (s : Int)))))) 63 = ((oz_cnt (oz_P (s : Int)) 9 : Nat) : Int) := by decide +kernel
def sp_bitc9 : fw_SP := fun as σ K => ∃ s : Int, as = [(0, 0, s)] ∧ (0 ≤ s ∧ s < 512) ∧ K (some (0, 0, ((oz_cnt (oz_P s) 9 : Nat) : Int))) σ
theorem oz_kn {σ A : ab_SG} (h : NC σ A) {j : Nat} (hj : j < 45) : σ 9 j = A 55 j := h.2.2.2.2.2.2.2.2.1 j hj
theorem oz_kn_b {σ A : ab_SG} (h : NC σ A) {j : Nat} (hj : j < 45) : 0 ≤ A 55 j ∧ A 55 j ≤ 9 := h.2.1.2.2.1 j hj
abbrev fk_bitc9 : List fw_CR := []
abbrev st_bitc9 : fw_K → fw_KR → fw_K := fw_st vwCl nn_sh nn_kd fw_kv fw_wc (nn_KI12.map (fun x => x.1)) (nn_KJ12.map (fun x => x.1)) (nn_PF12.map (fun x => x.1)) (nn_PS12.map (fun x => x.1)) fk_bitc9 0 nn_dt88 1 0
theorem fs_bitc9_0 {G : fw_K} {R : fw_KR} (hG : fw_cls st_bitc9 R G) {s : Int} {σ : ab_SG} (h : G 10 [some (0, 0, s - (fw_op 8 (fw_op 7 s 1) 1431655765))] [] σ) : G 0 [some (0, 0, s)] [] σ := fw_on hG [10, 24, 34, 41, 48] 200 h
theorem fs_bitc9_10 {G : fw_K} {R : fw_KR} (hG : fw_cls st_bitc9 R G) {a0 : Int} {σ : ab_SG} (h : G 24 [some (0, 0, (fw_op 8 a0 858993459) + (fw_op 8 (fw_op 7 a0 2) 858993459))] [] σ) : G 10 [some (0, 0, a0)] [] σ := fw_on hG [10, 24, 34, 41, 48] 200 h
theorem fs_bitc9_24 {G : fw_K} {R : fw_KR} (hG : fw_cls st_bitc9 R G) {a0 : Int} {σ : ab_SG} (h : G 34 [some (0, 0, fw_op 8 (a0 + (fw_op 7 a0 4)) 252645135)] [] σ) : G 24 [some (0, 0, a0)] [] σ := fw_on hG [10, 24, 34, 41, 48] 200 h
theorem fs_bitc9_34 {G : fw_K} {R : fw_KR} (hG : fw_cls st_bitc9 R G) {a0 : Int} {σ : ab_SG} (h : G 41 [some (0, 0, a0 + (fw_op 7 a0 8))] [] σ) : G 34 [some (0, 0, a0)] [] σ := fw_on hG [10, 24, 34, 41, 48] 200 h
theorem fs_bitc9_41 {G : fw_K} {R : fw_KR} (hG : fw_cls st_bitc9 R G) {a0 : Int} {σ : ab_SG} (h : G 48 [some (0, 0, a0 + (fw_op 7 a0 16))] [] σ) : G 41 [some (0, 0, a0)] [] σ := fw_on hG [10, 24, 34, 41, 48] 200 h
theorem fs_bitc9_48 {G : fw_K} {R : fw_KR} (hG : fw_cls st_bitc9 R G) {a0 : Int} {σ : ab_SG} (h : R (some (0, 0, fw_op 8 a0 63)) σ) : G 48 [some (0, 0, a0)] [] σ := fw_on hG [10, 24, 34, 41, 48] 200 h
section
variable {l : Launch} {cy : Nat → ClassId} {ad wr cr : Nat → Nat} {D : va_G}
theorem fm_bitc9 (hinj : nn_inj ad) : fw_H l cy ad wr cr D 88 0 sp_bitc9 := fw_mk hinj (⟨"java/lang/Integer", "bitCount", "(I)I"⟩, prog_20_method_49_code, 1, (Option.some Jvm.ClassFile.FieldType.int), 1, false, 0) rfl rfl nn_KI12_ok nn_KJ12_ok nn_PF12_ok nn_PS12_ok (by decide +kernel) rfl rfl (fun _ h => absurd h List.not_mem_nil) (fun as σ K h => by
  obtain ⟨s, rfl, hs, h⟩ := h
  obtain ⟨t, rfl⟩ := Int.eq_ofNat_of_zero_le hs.1
  rw [← ob_ex t (by omega)] at h
  refine ⟨rfl, fun G hG => ?_⟩
  have g5 : G 48 [some (0, 0, ob5 (ob4 (ob3 (ob2 (ob1 (t : Int))))))] [] σ := fs_bitc9_48 hG h
  have g4 : G 41 [some (0, 0, ob4 (ob3 (ob2 (ob1 (t : Int)))))] [] σ := fs_bitc9_41 hG g5
  have g3 : G 34 [some (0, 0, ob3 (ob2 (ob1 (t : Int))))] [] σ := fs_bitc9_34 hG g4
  have g2 : G 24 [some (0, 0, ob2 (ob1 (t : Int)))] [] σ := fs_bitc9_24 hG g3
  have g1 : G 10 [some (0, 0, ob1 (t : Int))] [] σ := fs_bitc9_10 hG g2
  exact fs_bitc9_0 hG g1)
end
end
section
/-! an evening's lines: what they tell, by themselves; the class reads and judges them -/
def ev_st (e : tk_E) (p : Nat) : Int := fw_c (tk e p).2.1
def ev_w (e : tk_E) (p : Nat) : Int := if tw e (tn e p) = 6 then 0 else (tk e (tn e p)).2.2.2.2
def ev_p (A : ab_SG) (e : tk_E) (p : Nat) : Int := pr_ix A e 59 (A 49 13) p
/-- where a line begins -/
def ev_q (e : tk_E) : Nat → Nat
  | 0 => tn e (tn e (tn e 0))
  | i + 1 => tn e (tn e (tn e (ev_q e i)))
/-! where tokens end: a line takes four bytes -/
theorem ev_tk {e : tk_E} {p : Nat} (h : 0 ≤ tw e p) : (tk e p).1 = 2 := by
  unfold tw at h
  split at h
  · assumption
  · omega
theorem pr_sk_0 {A : ab_SG} {e : tk_E} {k p : Nat} {n : Int} (h : pr_sk A e k n p = 0) : (tk e p).1 = 2 ∧ tw e p < 0 ∧ 0 ≤ pr_ix A e k n p ∧ pr_ix A e k n p < max n 1 := by
  unfold pr_sk at h
  by_cases c : (tk e p).1 = 2 ∧ tw e p < 0
  · rw [if_pos c] at h
    by_cases d : pr_ix A e k n p < 0
    · rw [if_pos d] at h
      exact absurd h (by decide)
    · have g := rw_fd_le (A k) (pr_wd e p) n.toNat 0
      have g2 : pr_ix A e k n p < 0 ∨ ((0 : Nat) : Int) ≤ pr_ix A e k n p ∧ pr_ix A e k n p < ((0 : Nat) : Int) + n.toNat := g
      exact ⟨c.1, c.2, by omega, by omega⟩
  · rw [if_neg c] at h
    exact absurd h (by decide)
theorem pr_nm_0 {e : tk_E} {p : Nat} {a b : Int} (h : pr_nm e p a b = 0) : (tk e p).1 = 3 ∧ a ≤ (tk e p).2.2.2.2 ∧ (tk e p).2.2.2.2 ≤ b := by
  unfold pr_nm at h
  by_cases c : (tk e p).1 = 3
  · rw [if_pos c] at h
    by_cases d : a ≤ (tk e p).2.2.2.2 ∧ (tk e p).2.2.2.2 ≤ b
    · exact ⟨c, d⟩
    · rw [if_neg d] at h
      exact absurd h (by decide)
  · rw [if_neg c] at h
    exact absurd h (by decide)
/-! the class's tape at a token -/
def eD (σ : ab_SG) (e : tk_E) (p : Nat) : Prop := eT σ = e ∧ st_is σ (tk e p) ∧ p ≤ e.2.1 ∧ (0 ≤ σ 1 1 ∧ σ 1 1 ≤ 940 ∧ 0 ≤ σ 1 2 ∧ σ 1 2 ≤ 940) ∧ σ 1 9 = 0
theorem ev_up {M N : ab_ML} {σ σ' : ab_SG} (h : ab_okM M σ σ') (hm : M.all (fun q => N.any (fun r => r.1.beq q.1 && (r.2.beq q.2 || r.2.beq 1000000))) = true) : ab_okM N σ σ' := by
  intro a b q
  refine h a b (fun r hr w => ?_)
  obtain ⟨t, ht, h2⟩ := List.any_eq_true.mp (List.all_eq_true.mp hm r hr)
  rw [Bool.and_eq_true, Bool.or_eq_true] at h2
  refine q t ht ⟨(Nat.eq_of_beq_eq_true h2.1).trans w.1, ?_⟩
  rcases h2.2 with e | e
  · rw [Nat.eq_of_beq_eq_true e]; exact w.2
  · exact Or.inr (Nat.eq_of_beq_eq_true e)
theorem ev_tr {M : ab_ML} {σ σ1 σ2 : ab_SG} (h1 : ab_okM M σ σ1) (h2 : ab_okM M σ1 σ2) : ab_okM M σ σ2 := fun a b q => (h2 a b q).trans (h1 a b q)
theorem ev_NC {M : ab_ML} {σ σ' A : ab_SG} (h : ab_okM M σ σ') (m : rc_b M 3 = true) (hN : NC σ A) : NC σ' A := ⟨hN.1, hN.2.1, cn_cg hN.1 (cb_M h m) hN.2.2⟩
def ed_no (σ : ab_SG) (f pl : Int) (K : fw_KR) (v : Int) : Prop := ∀ σ' : ab_SG, ab_okM [(1, 9), (1, 10)] σ σ' → σ' 1 9 = f → σ' 1 10 = pl → K (some (0, 0, v)) σ'
section
variable {σ A : ab_SG} {e : tk_E} {p : Nat}
theorem eD.kind (h : eD σ e p) : σ 1 5 = (tk e p).1 ∧ fw_c (σ 1 5) = (tk e p).1 := by
  obtain ⟨-, hk, -⟩ := h
  have := (tk_can e p).1
  rw [hk.1]
  exact ⟨rfl, fw_c_id (by omega) (by omega)⟩
theorem eD.kw (h : eD σ e p) : σ 1 7 = tw e p ∧ -1 ≤ σ 1 7 ∧ σ 1 7 ≤ 16 := by
  obtain ⟨-, hk, -⟩ := h
  have e1 : σ 1 7 = tw e p := by
    unfold tw
    by_cases q : (tk e p).1 = 2
    · rw [if_pos q]; exact (hk.2.2.2.1 q).2
    · rw [if_neg q]; exact hk.2.2.2.2.1 q
  refine ⟨e1, ?_⟩
  rw [e1]
  unfold tw
  split
  · rcases kw_of_in 17 (tk e p).2.2.2.1 (-1) with g | g
    · rw [g]; decide
    · omega
  · decide
theorem eD.st (h : eD σ e p) : st_pre σ ∧ ∀ σ' : ab_SG, ab_okM st_M σ σ' → st_is σ' (st_nx σ) → eD σ' e (tn e p) := by
  obtain ⟨he, hk, hp, hb, h9⟩ := h
  have e3 : σ 1 3 = ((tn e p : Nat) : Int) := hk.2.2.1
  have hn := tn_le hp
  have en : e.2.1 = (σ 1 1).toNat := by rw [← he]; rfl
  refine ⟨⟨by omega, by omega, hb.2.1, hb.2.2.1, hb.2.2.2⟩, fun σ' hM hs => ⟨?_, ?_, hn.2, ?_, (hM 1 9 (by decide)).trans h9⟩⟩
  · rw [← he]
    unfold eT
    rw [tp_t_M hM (by decide), hM 1 1 (by decide), hM 1 2 (by decide)]
  · have e4 : st_nx σ = tk e (tn e p) := by
      rw [← he]
      unfold st_nx tk eT
      rw [e3, Int.toNat_natCast, ← he]
      rfl
    rw [← e4]
    exact hs
  · rw [hM 1 1 (by decide), hM 1 2 (by decide)]
    exact hb
theorem eD.M (h : eD σ e p) {M : ab_ML} {σ' : ab_SG} (hM : ab_okM M σ σ') (h1 : M.all (fun q => !(q.1.beq 1)) = true) (h2 : M.all (fun q => !(q.1.beq 2)) = true) : eD σ' e p := by
  obtain ⟨he, hk, hp, hb, h9⟩ := h
  have r : ∀ j : Nat, σ' 1 j = σ 1 j := mk_row hM h1
  refine ⟨?_, ?_, hp, ?_, (r 9).trans h9⟩
  · rw [← he]
    unfold eT
    rw [tp_t_M hM h2, r, r]
  · unfold st_is
    rw [r, r, r, r, r, r]
    exact hk
  · rw [r, r]
    exact hb
theorem eD.rf (h : eD σ e p) {x : Int} (hx : 0 ≤ x ∧ x ≤ 9) {K : fw_KR} {v : Int} (hn : ed_no σ x (ev_st e p) K v) : K (some (0, 0, v)) (tp_rf σ x) := by
  obtain ⟨-, hk, -⟩ := h
  refine hn _ (fw_okM_ups (fw_okM_ups (fw_okM_refl _ _) (by decide)) (by decide)) ?_ ?_
  · unfold tp_rf
    rw [ab_ups_ne (by decide), ab_ups_eq]
    exact fw_s (by omega) (by omega)
  · unfold tp_rf
    rw [ab_ups_eq, hk.2.1]
    rfl
theorem eD.num (h : eD σ e p) {a b : Int} {K : fw_KR} (hab : 0 ≤ a ∧ a ≤ 24 ∧ 0 ≤ b ∧ b ≤ 24) (h0 : pr_nm e p a b ≠ 0 → ed_no σ (pr_nm e p a b) (ev_st e p) K 0) (h1 : pr_nm e p a b = 0 → σ 1 8 = (tk e p).2.2.2.2 → a ≤ (tk e p).2.2.2.2 → (tk e p).2.2.2.2 ≤ b → K (some (0, 0, 1)) σ) :
    sp_needNumber [(2, 1, 0), (0, 0, a), (0, 0, b)] σ K := by
  have hk := h.kind
  have hc := tk_can e p
  have ea : fw_c a = a := fw_c_id (by omega) (by omega)
  have eb : fw_c b = b := fw_c_id (by omega) (by omega)
  refine ⟨a, b, rfl, ?_⟩
  rw [hk.2, ea, eb]
  unfold pr_nm at h0 h1
  refine ⟨fun q => ?_, fun q q2 => ?_, fun q q2 => ?_⟩
  · rw [if_neg q] at h0
    exact h.rf (by decide) (h0 (by decide))
  · have e8 : σ 1 8 = (tk e p).2.2.2.2 := h.2.1.2.2.2.2.2 q
    rw [e8, hc.2.2 q] at q2
    rw [if_pos q, if_neg q2] at h0
    exact h.rf (by decide) (h0 (by decide))
  · have e8 : σ 1 8 = (tk e p).2.2.2.2 := h.2.1.2.2.2.2.2 q
    rw [e8, hc.2.2 q] at q2
    rw [if_pos q, if_pos q2] at h1
    exact h1 rfl e8 q2.1 q2.2
theorem eD.word (h : eD σ e p) (q : (tk e p).1 = 2) : σ 1 6 = pr_wd e p ∧ fw_d (σ 1 6) = σ 1 6 := by
  have e6 : σ 1 6 = pr_wd e p := (h.2.1.2.2.2.1 q).1
  refine ⟨e6, ?_⟩
  rw [e6]
  exact (tk_can e p).2.1 q
theorem eD.name (h : eD σ e p) : (fw_c (σ 1 5) = 2 ∧ σ 1 7 < 0) ↔ ((tk e p).1 = 2 ∧ tw e p < 0) := by rw [h.kind.2, h.kw.1]
theorem eD.isw (h : eD σ e p) {x : Int} (hx : 0 ≤ x) : (fw_c (σ 1 5) = 2 ∧ σ 1 7 = x) ↔ tw e p = x := by
  rw [h.kind.2, h.kw.1]
  exact ⟨fun z => z.2, fun z => ⟨ev_tk (by omega), z⟩⟩
def rw_N : List (Nat × Nat) := [(12, 6), (13, 5)]
def sp_seekn : fw_SP := sp_of seek_k rw_N
/-- names of the studio that is now: row k, told in row k9 of A -/
theorem eD.seek (h : eD σ e p) {k k9 n : Nat} {x : Int} {K : fw_KR} (hkn : (k, n) ∈ rw_N) (hx : 0 ≤ x ∧ x ≤ (n : Int)) (hr : ∀ j : Nat, (j : Int) < x → σ k j = A k9 j ∧ fw_d (A k9 j) = A k9 j) (h0 : pr_sk A e k9 x p ≠ 0 → ed_no σ (pr_sk A e k9 x p) (ev_st e p) K (-1)) (h1 : pr_sk A e k9 x p = 0 → K (some (0, 0, pr_ix A e k9 x p)) σ) :
    sp_seekn [(2, 1, 0), (2, k, 0), (0, 0, x)] σ K := by
  have hN := h.name
  have hc : rw_fd (σ k) (pr_wd e p) x.toNat 0 = pr_ix A e k9 x p := rw_cong x.toNat 0 (fun j _ hj => (hr j (by omega)).1)
  refine ⟨(k, n), hkn, x, rfl, hx, fun j hj => by rw [(hr j hj).1]; exact (hr j hj).2, fun q => (h.word (hN.mp q).1).2, fun q => ?_, fun q q2 => ?_, fun q q2 => ?_⟩
  · unfold pr_sk at h0
    rw [if_neg (fun z => q (hN.mpr z))] at h0
    exact h.rf (by decide) (h0 (by decide))
  · have hq := hN.mp q
    rw [(h.word hq.1).1, hc] at q2
    unfold pr_sk at h0
    rw [if_pos hq, if_pos q2] at h0
    exact h.rf (by decide) (h0 (by decide))
  · have hq := hN.mp q
    rw [(h.word hq.1).1, hc] at q2 ⊢
    unfold pr_sk at h1
    rw [if_pos hq, if_neg (show ¬ pr_ix A e k9 x p < 0 by omega)] at h1
    exact h1 rfl
end
/-- the lines are laid -/
def eL (σ A : ab_SG) (e : tk_E) (n : Nat) : Prop := σ 69 3 = (n : Int) ∧ ∀ j : Nat, j < n → σ 70 j = ev_p A e (ev_q e j) ∧ σ 71 j = ev_w e (ev_q e j)
abbrev fk_seek12 : List fw_CR := [(87, 0, true, 8, 0, sp_isName), (91, 1, true, 8, 0, sp_refuse)]
abbrev st_seek12 : fw_K → fw_KR → fw_K := fw_st vwCl nn_sh nn_kd fw_kv fw_wc (nn_KI2.map (fun x => x.1)) (nn_KJ2.map (fun x => x.1)) (nn_PF2.map (fun x => x.1)) (nn_PS2.map (fun x => x.1)) fk_seek12 1 nn_dt33 4 0
theorem fs_seek12_0 {G : fw_K} {R : fw_KR} (hG : fw_cls st_seek12 R G) {x : Int} {σ : ab_SG} (h : sp_isName [(2, 1, 0)] σ (fun rv σ2 => G 4 [some (2, 1, 0), some (2, 12, 0), some (0, 0, x), none] (rv.toList ++ []) σ2)) : G 0 [some (2, 1, 0), some (2, 12, 0), some (0, 0, x), none] [] σ := fw_on hG [4, 12, 17, 47, 52] 200 h
theorem fs_seek12_4 {G : fw_K} {R : fw_KR} (hG : fw_cls st_seek12 R G) {a2 b0 : Int} {σ : ab_SG} (h : (fw_c b0 ≠ 0 → G 17 [some (2, 1, 0), some (2, 12, 0), some (0, 0, a2), some (0, 0, 0)] [] σ) ∧ (fw_c b0 = 0 → sp_refuse [(2, 1, 0), (0, 0, 1)] σ (fun rv σ2 => G 12 [some (2, 1, 0), some (2, 12, 0), some (0, 0, a2), none] (rv.toList ++ []) σ2))) : G 4 [some (2, 1, 0), some (2, 12, 0), some (0, 0, a2), none] [(0, 0, b0)] σ := fw_on hG [4, 12, 17, 47, 52] 200 h
theorem fs_seek12_17 {G : fw_K} {R : fw_KR} (hG : fw_cls st_seek12 R G) {a2 a3 : Int} {σ : ab_SG} (h : (fw_c a2 ≤ fw_c a3 → G 47 [some (2, 1, 0), some (2, 12, 0), some (0, 0, a2), some (0, 0, a3)] [] σ) ∧ (fw_c a3 < fw_c a2 → (fw_c ((6 : Nat) : Int) ≤ fw_c a3 → G 47 [some (2, 1, 0), some (2, 12, 0), some (0, 0, a2), some (0, 0, a3)] [] σ) ∧ (fw_c a3 < fw_c ((6 : Nat) : Int) → (0 ≤ fw_c a3 ∧ fw_c a3 < ((6 : Nat) : Int)) ∧ ((fw_d (σ 12 (fw_c a3).toNat) ≠ fw_d (σ 1 6) → G 17 [some (2, 1, 0), some (2, 12, 0), some (0, 0, a2), some (0, 0, a3 + 1)] [] σ) ∧ (fw_d (σ 12 (fw_c a3).toNat) = fw_d (σ 1 6) → R (some (0, 0, a3)) σ))))) : G 17 [some (2, 1, 0), some (2, 12, 0), some (0, 0, a2), some (0, 0, a3)] [] σ := fw_on hG [4, 12, 17, 47, 52] 200 h
theorem fs_seek12_12 {G : fw_K} {R : fw_KR} (hG : fw_cls st_seek12 R G) {a2 b0 : Int} {σ : ab_SG} (h : R (some (0, 0, (-1))) σ) : G 12 [some (2, 1, 0), some (2, 12, 0), some (0, 0, a2), none] [(0, 0, b0)] σ := fw_on hG [4, 12, 17, 47, 52] 200 h
theorem fs_seek12_47 {G : fw_K} {R : fw_KR} (hG : fw_cls st_seek12 R G) {a2 a3 : Int} {σ : ab_SG} (h : sp_refuse [(2, 1, 0), (0, 0, 3)] σ (fun rv σ2 => G 52 [some (2, 1, 0), some (2, 12, 0), some (0, 0, a2), some (0, 0, a3)] (rv.toList ++ []) σ2)) : G 47 [some (2, 1, 0), some (2, 12, 0), some (0, 0, a2), some (0, 0, a3)] [] σ := fw_on hG [4, 12, 17, 47, 52] 200 h
theorem fs_seek12_52 {G : fw_K} {R : fw_KR} (hG : fw_cls st_seek12 R G) {a2 a3 b0 : Int} {σ : ab_SG} (h : R (some (0, 0, (-1))) σ) : G 52 [some (2, 1, 0), some (2, 12, 0), some (0, 0, a2), some (0, 0, a3)] [(0, 0, b0)] σ := fw_on hG [4, 12, 17, 47, 52] 200 h
abbrev fk_seek13 : List fw_CR := [(87, 0, true, 8, 0, sp_isName), (91, 1, true, 8, 0, sp_refuse)]
abbrev st_seek13 : fw_K → fw_KR → fw_K := fw_st vwCl nn_sh nn_kd fw_kv fw_wc (nn_KI2.map (fun x => x.1)) (nn_KJ2.map (fun x => x.1)) (nn_PF2.map (fun x => x.1)) (nn_PS2.map (fun x => x.1)) fk_seek13 1 nn_dt33 4 0
theorem fs_seek13_0 {G : fw_K} {R : fw_KR} (hG : fw_cls st_seek13 R G) {x : Int} {σ : ab_SG} (h : sp_isName [(2, 1, 0)] σ (fun rv σ2 => G 4 [some (2, 1, 0), some (2, 13, 0), some (0, 0, x), none] (rv.toList ++ []) σ2)) : G 0 [some (2, 1, 0), some (2, 13, 0), some (0, 0, x), none] [] σ := fw_on hG [4, 12, 17, 47, 52] 200 h
theorem fs_seek13_4 {G : fw_K} {R : fw_KR} (hG : fw_cls st_seek13 R G) {a2 b0 : Int} {σ : ab_SG} (h : (fw_c b0 ≠ 0 → G 17 [some (2, 1, 0), some (2, 13, 0), some (0, 0, a2), some (0, 0, 0)] [] σ) ∧ (fw_c b0 = 0 → sp_refuse [(2, 1, 0), (0, 0, 1)] σ (fun rv σ2 => G 12 [some (2, 1, 0), some (2, 13, 0), some (0, 0, a2), none] (rv.toList ++ []) σ2))) : G 4 [some (2, 1, 0), some (2, 13, 0), some (0, 0, a2), none] [(0, 0, b0)] σ := fw_on hG [4, 12, 17, 47, 52] 200 h
theorem fs_seek13_17 {G : fw_K} {R : fw_KR} (hG : fw_cls st_seek13 R G) {a2 a3 : Int} {σ : ab_SG} (h : (fw_c a2 ≤ fw_c a3 → G 47 [some (2, 1, 0), some (2, 13, 0), some (0, 0, a2), some (0, 0, a3)] [] σ) ∧ (fw_c a3 < fw_c a2 → (fw_c ((5 : Nat) : Int) ≤ fw_c a3 → G 47 [some (2, 1, 0), some (2, 13, 0), some (0, 0, a2), some (0, 0, a3)] [] σ) ∧ (fw_c a3 < fw_c ((5 : Nat) : Int) → (0 ≤ fw_c a3 ∧ fw_c a3 < ((5 : Nat) : Int)) ∧ ((fw_d (σ 13 (fw_c a3).toNat) ≠ fw_d (σ 1 6) → G 17 [some (2, 1, 0), some (2, 13, 0), some (0, 0, a2), some (0, 0, a3 + 1)] [] σ) ∧ (fw_d (σ 13 (fw_c a3).toNat) = fw_d (σ 1 6) → R (some (0, 0, a3)) σ))))) : G 17 [some (2, 1, 0), some (2, 13, 0), some (0, 0, a2), some (0, 0, a3)] [] σ := fw_on hG [4, 12, 17, 47, 52] 200 h
theorem fs_seek13_12 {G : fw_K} {R : fw_KR} (hG : fw_cls st_seek13 R G) {a2 b0 : Int} {σ : ab_SG} (h : R (some (0, 0, (-1))) σ) : G 12 [some (2, 1, 0), some (2, 13, 0), some (0, 0, a2), none] [(0, 0, b0)] σ := fw_on hG [4, 12, 17, 47, 52] 200 h
theorem fs_seek13_47 {G : fw_K} {R : fw_KR} (hG : fw_cls st_seek13 R G) {a2 a3 : Int} {σ : ab_SG} (h : sp_refuse [(2, 1, 0), (0, 0, 3)] σ (fun rv σ2 => G 52 [some (2, 1, 0), some (2, 13, 0), some (0, 0, a2), some (0, 0, a3)] (rv.toList ++ []) σ2)) : G 47 [some (2, 1, 0), some (2, 13, 0), some (0, 0, a2), some (0, 0, a3)] [] σ := fw_on hG [4, 12, 17, 47, 52] 200 h
theorem fs_seek13_52 {G : fw_K} {R : fw_KR} (hG : fw_cls st_seek13 R G) {a2 a3 b0 : Int} {σ : ab_SG} (h : R (some (0, 0, (-1))) σ) : G 52 [some (2, 1, 0), some (2, 13, 0), some (0, 0, a2), some (0, 0, a3)] [(0, 0, b0)] σ := fw_on hG [4, 12, 17, 47, 52] 200 h
section
variable {l : Launch} {cy : Nat → ClassId} {ad wr cr : Nat → Nat} {D : va_G}
theorem fm_seek12 (hinj : nn_inj ad) : fw_H l cy ad wr cr D 33 1 (seek_k 12 6) := fw_mk hinj (⟨"NameNotes$Tape", "seek", "([JI)I"⟩, prog_10_method_11_code, 4, (Option.some Jvm.ClassFile.FieldType.int), 2, true, 0) rfl rfl nn_KI2_ok nn_KJ2_ok nn_PF2_ok nn_PS2_ok (by decide +kernel) rfl rfl (List.forall_mem_cons.mpr ⟨fw_row nn_PM2_ok (x := 87) (k := 0) (mn := 24) (np := 0) (ob := true) (ci := 8) (⟨"NameNotes$Tape", "isName", "()Z"⟩, prog_10_method_9_code, 1, (Option.some Jvm.ClassFile.FieldType.boolean), 0, true, 1) rfl (by decide +kernel) rfl rfl (by decide) (fun _ => ⟨_, _, rfl⟩) (fm_isName hinj), (List.forall_mem_cons.mpr ⟨fw_row nn_PM2_ok (x := 91) (k := 0) (mn := 22) (np := 1) (ob := true) (ci := 8) (⟨"NameNotes$Tape", "refuse", "(I)Z"⟩, prog_10_method_14_code, 2, (Option.some Jvm.ClassFile.FieldType.boolean), 1, true, 1) rfl (by decide +kernel) rfl rfl (by decide) (fun _ => ⟨_, _, rfl⟩) (fm_refuse hinj), (fun _ h => absurd h List.not_mem_nil)⟩)⟩) (fun as σ K h => by
  obtain ⟨x, rfl, hx, hd, hw, h1, h2, h3⟩ := h
  refine ⟨rfl, fun G hG => fs_seek12_0 hG ⟨rfl, ?_⟩⟩
  refine fs_seek12_4 hG ⟨fun z => ?_, fun z => ⟨_, rfl, fs_seek12_12 hG (h1 (fw_bo_eq z))⟩⟩
  have hn := fw_bo_ne z
  exact seek_gen (k := 12) (n := 6) (K := K) (σ := σ) (x := x) (G2 := fun i => G 17 [some (2, 1, 0), some (2, 12, 0), some (0, 0, x), some (0, 0, i)] [] σ) (G4 := fun i => G 47 [some (2, 1, 0), some (2, 12, 0), some (0, 0, x), some (0, 0, i)] [] σ) (by decide) (fun a3 q => fs_seek12_17 hG q) hx hd (hw hn) (fun q i => fs_seek12_47 hG ⟨_, rfl, fs_seek12_52 hG (h2 hn q)⟩) (h3 hn))
theorem fm_seek13 (hinj : nn_inj ad) : fw_H l cy ad wr cr D 33 1 (seek_k 13 5) := fw_mk hinj (⟨"NameNotes$Tape", "seek", "([JI)I"⟩, prog_10_method_11_code, 4, (Option.some Jvm.ClassFile.FieldType.int), 2, true, 0) rfl rfl nn_KI2_ok nn_KJ2_ok nn_PF2_ok nn_PS2_ok (by decide +kernel) rfl rfl (List.forall_mem_cons.mpr ⟨fw_row nn_PM2_ok (x := 87) (k := 0) (mn := 24) (np := 0) (ob := true) (ci := 8) (⟨"NameNotes$Tape", "isName", "()Z"⟩, prog_10_method_9_code, 1, (Option.some Jvm.ClassFile.FieldType.boolean), 0, true, 1) rfl (by decide +kernel) rfl rfl (by decide) (fun _ => ⟨_, _, rfl⟩) (fm_isName hinj), (List.forall_mem_cons.mpr ⟨fw_row nn_PM2_ok (x := 91) (k := 0) (mn := 22) (np := 1) (ob := true) (ci := 8) (⟨"NameNotes$Tape", "refuse", "(I)Z"⟩, prog_10_method_14_code, 2, (Option.some Jvm.ClassFile.FieldType.boolean), 1, true, 1) rfl (by decide +kernel) rfl rfl (by decide) (fun _ => ⟨_, _, rfl⟩) (fm_refuse hinj), (fun _ h => absurd h List.not_mem_nil)⟩)⟩) (fun as σ K h => by
  obtain ⟨x, rfl, hx, hd, hw, h1, h2, h3⟩ := h
  refine ⟨rfl, fun G hG => fs_seek13_0 hG ⟨rfl, ?_⟩⟩
  refine fs_seek13_4 hG ⟨fun z => ?_, fun z => ⟨_, rfl, fs_seek13_12 hG (h1 (fw_bo_eq z))⟩⟩
  have hn := fw_bo_ne z
  exact seek_gen (k := 13) (n := 5) (K := K) (σ := σ) (x := x) (G2 := fun i => G 17 [some (2, 1, 0), some (2, 13, 0), some (0, 0, x), some (0, 0, i)] [] σ) (G4 := fun i => G 47 [some (2, 1, 0), some (2, 13, 0), some (0, 0, x), some (0, 0, i)] [] σ) (by decide) (fun a3 q => fs_seek13_17 hG q) hx hd (hw hn) (fun q i => fs_seek13_47 hG ⟨_, rfl, fs_seek13_52 hG (h2 hn q)⟩) (h3 hn))
end
end
section
/-! an evening: the reference reads and judges it -/
def mp_M : ab_ML := (93, 10) :: (93, 11) :: (93, 13) :: go_M
def mp_no (σ : ab_SG) (f pl : Int) (K : fw_KR) : Prop := ∀ σ' : ab_SG, ab_okM mp_M σ σ' → σ' 93 10 = f → σ' 93 11 = pl → K (some (0, 0, 0)) σ'
theorem mp_bad {σ : ab_SG} {e : tk_E} {p : Nat} (hm : mg_is σ (tk e p)) {x : Int} {K : fw_KR} (hx : 1 ≤ x ∧ x ≤ 4) (k : ∀ σ' : ab_SG, ab_okM [(93, 10), (93, 11)] σ σ' → σ' 93 10 = (if σ 93 7 = 1 then 1 else x) → σ' 93 11 = ev_st e p → K (some (0, 0, 0)) σ') : sp_m_bad [(2, 93, 0), (0, 0, x)] σ K :=
  ⟨x, rfl, hx, (mg_kind hm).2.2.2.2, fun σ' M a b => k σ' M a (by rw [b, hm.1]; rfl)⟩
theorem ev_NM {M : ab_ML} {σ σ' A : ab_SG} (h : ab_okM M σ σ') (m : (M.all (fun q => !(q.1.beq 95)) && M.all (fun q => !(q.1.beq 99)) && mk_b M 93 22) = true) (hN : NM σ A) : NM σ' A := by
  rw [Bool.and_eq_true, Bool.and_eq_true] at m
  refine ⟨hN.1, hN.2.1, ?_⟩
  have e : mlN σ' = mlN σ := by
    funext j
    unfold mlN
    rw [mk_at h m.2, mk_row h m.1.1 j]
  rw [e, show σ' 99 = σ 99 from funext (mk_row h m.1.2)]
  exact hN.2.2
theorem NM_ly {σ σ' A : ab_SG} (M : ab_okM bg_M σ σ') (h : ly_is σ σ') (hN : NM σ A) : NM σ' A ∧ σ' 95 3 = A 49 14 := by
  have s : NM σ' A := ⟨hN.1, hN.2.1, sr_cong hN.1 (fun j hj _ => mlN_ly h (fun j hj h3 => M 95 j (fun q hq w => by
    have g : ∀ q ∈ bg_M, q.1 = 95 → q.2 = 3 := by decide
    have g2 := g q hq w.1
    rcases w.2 with y | y <;> omega)) j hj) (fun j _ => mk_row M (k := 99) (by decide) j) hN.2.2⟩
  refine ⟨s, ?_⟩
  have n3 : mlN σ' 3 = A 49 14 := s.2.2.2.2.2.1
  unfold mlN at n3
  rw [if_neg (fun z => by rw [h.1] at z; exact absurd z.1 (by decide))] at n3
  exact n3
/-- names of the studio, in the reference's row -/
def rm_k (σ A : ab_SG) (b k : Nat) (n : Int) : Prop := ∀ j : Nat, (j : Int) < n → rf_ok 7 (A k j) ∧ σ 99 (b + j) = rf_w 7 (A k j)
theorem rm_12 {σ A : ab_SG} (h : NM σ A) : rm_k σ A 9 58 (A 49 12) := h.2.2.2.2.2.2.2.2.2.2.2.1
theorem rm_13 {σ A : ab_SG} (h : NM σ A) : rm_k σ A 15 59 (A 49 13) := h.2.2.2.2.2.2.2.2.2.2.2.2
def sp_m_findIn99 : fw_SP := fun as σ K => ∃ (b n : Nat) (w : Int), as = [(2, 99, 0), (0, 0, (b : Int)), (0, 0, (n : Int)), (1, 0, w)] ∧ b + n ≤ 20 ∧ fw_d w = w ∧ (∀ j : Nat, j < n → fw_d (σ 99 (b + j)) = σ 99 (b + j)) ∧ K (some (0, 0, rw_fd (fun j => σ 99 (b + j)) w n 0)) σ
theorem mf_find {σ A : ab_SG} {e : tk_E} {p b k : Nat} {n : Int} {K : fw_KR} (hm : mt_is σ e p) (hq : (tk e p).1 = 2) (hn : 0 ≤ n ∧ n ≤ 9 ∧ b + n.toNat ≤ 20) (hr : rm_k σ A b k n) (h : K (some (0, 0, pr_ix A e k n p)) σ) : sp_m_findIn99 [(2, 99, 0), (0, 0, (b : Int)), (0, 0, n), (1, 0, σ 93 12)] σ K := by
  have en : ((n.toNat : Nat) : Int) = n := by omega
  obtain ⟨-, ok, e12⟩ := hm.1.2.2.2.2.1 hq
  have b1 := rf_w_in 7 (tk e p).2.2.2.1
  have hB := rf_B7
  have d1 : fw_d (σ 93 12) = σ 93 12 := by rw [e12]; exact fw_d_id (by omega) (by omega)
  refine ⟨b, n.toNat, _, by rw [en], hn.2.2, d1, fun j hj => ?_, ?_⟩
  · have b2 := rf_w_in 7 (A k j)
    rw [(hr j (by omega)).2]
    exact fw_d_id (by omega) (by omega)
  · have ef : rw_fd (fun j => σ 99 (b + j)) (σ 93 12) n.toNat 0 = pr_ix A e k n p := by
      rw [e12]
      exact rw_rf ok n.toNat 0 (fun j _ hj => hr j (by omega))
    rw [ef]
    exact h
def sp_m_isNumberP : fw_SP := fun as σ K => ∃ (a b : Int) (e : tk_E) (p : Nat), as = [(2, 93, 0), (0, 0, a), (0, 0, b)] ∧ (0 ≤ a ∧ a ≤ 99 ∧ 0 ≤ b ∧ b ≤ 99) ∧ mg_is σ (tk e p) ∧ (pr_nm e p a b ≠ 0 → mp_no σ (pr_nm e p a b) (ev_st e p) K) ∧
  (pr_nm e p a b = 0 → a ≤ (tk e p).2.2.2.2 → (tk e p).2.2.2.2 ≤ b → K (some (0, 0, 1)) (ab_ups σ 93 13 (tk e p).2.2.2.2))
def sp_m_readNumberP : fw_SP := fun as σ K => ∃ (a b : Int) (e : tk_E) (p : Nat), as = [(2, 93, 0), (0, 0, a), (0, 0, b)] ∧ (0 ≤ a ∧ a ≤ 99 ∧ 0 ≤ b ∧ b ≤ 99) ∧ mt_is σ e p ∧ (pr_nm e p a b ≠ 0 → mp_no σ (pr_nm e p a b) (ev_st e p) K) ∧
  (pr_nm e p a b = 0 → ∀ σ' : ab_SG, ab_okM ((93, 13) :: go_M) σ σ' → σ' 93 13 = (tk e p).2.2.2.2 → mt_is σ' e (tn e p) → K (some (0, 0, 1)) σ')
abbrev fk_m_isNumberP : List fw_CR := [(168, 1, true, 11, 0, sp_m_bad), (171, 3, false, 0, 0, sp_m_isIn)]
abbrev st_m_isNumberP : fw_K → fw_KR → fw_K := fw_st vwCl nn_sh nn_kd fw_kv fw_wc (nn_KI20.map (fun x => x.1)) (nn_KJ20.map (fun x => x.1)) (nn_PF20.map (fun x => x.1)) (nn_PS20.map (fun x => x.1)) fk_m_isNumberP 1 nn_dt225 3 1
theorem fs_m_isNumberP_0 {G : fw_K} {R : fw_KR} (hG : fw_cls st_m_isNumberP R G) {x y : Int} {σ : ab_SG} (h : (fw_c (σ 93 7) = fw_c 3 → sp_m_isIn [(0, 0, σ 93 8), (0, 0, x), (0, 0, y)] σ (fun rv σ2 => G 23 [some (2, 93, 0), some (0, 0, x), some (0, 0, y)] (rv.toList ++ []) σ2)) ∧ (fw_c (σ 93 7) ≠ fw_c 3 → sp_m_bad [(2, 93, 0), (0, 0, 1)] σ (fun rv σ2 => G 13 [some (2, 93, 0), some (0, 0, x), some (0, 0, y)] (rv.toList ++ []) σ2))) : G 0 [some (2, 93, 0), some (0, 0, x), some (0, 0, y)] [] σ := fw_on hG [13, 23, 31] 200 h
theorem fs_m_isNumberP_23 {G : fw_K} {R : fw_KR} (hG : fw_cls st_m_isNumberP R G) {a1 a2 b0 : Int} {σ : ab_SG} (h : (fw_c b0 ≠ 0 → (0 ≤ fw_c 1 ∧ fw_c 1 ≤ 1) ∧ R (some (0, 0, 1)) (ab_ups σ 93 13 (fw_c (σ 93 8)))) ∧ (fw_c b0 = 0 → sp_m_bad [(2, 93, 0), (0, 0, 2)] σ (fun rv σ2 => G 31 [some (2, 93, 0), some (0, 0, a1), some (0, 0, a2)] (rv.toList ++ []) σ2))) : G 23 [some (2, 93, 0), some (0, 0, a1), some (0, 0, a2)] [(0, 0, b0)] σ := fw_on hG [13, 23, 31] 200 h
theorem fs_m_isNumberP_13 {G : fw_K} {R : fw_KR} (hG : fw_cls st_m_isNumberP R G) {a1 a2 b0 : Int} {σ : ab_SG} (h : (0 ≤ fw_c b0 ∧ fw_c b0 ≤ 1) ∧ R (some (0, 0, b0)) σ) : G 13 [some (2, 93, 0), some (0, 0, a1), some (0, 0, a2)] [(0, 0, b0)] σ := fw_on hG [13, 23, 31] 200 h
theorem fs_m_isNumberP_31 {G : fw_K} {R : fw_KR} (hG : fw_cls st_m_isNumberP R G) {a1 a2 b0 : Int} {σ : ab_SG} (h : (0 ≤ fw_c b0 ∧ fw_c b0 ≤ 1) ∧ R (some (0, 0, b0)) σ) : G 31 [some (2, 93, 0), some (0, 0, a1), some (0, 0, a2)] [(0, 0, b0)] σ := fw_on hG [13, 23, 31] 200 h
abbrev fk_m_readNumberP : List fw_CR := [(178, 2, true, 11, 1, sp_m_isNumberP), (182, 0, true, 11, 1, sp_m_go)]
abbrev st_m_readNumberP : fw_K → fw_KR → fw_K := fw_st vwCl nn_sh nn_kd fw_kv fw_wc (nn_KI20.map (fun x => x.1)) (nn_KJ20.map (fun x => x.1)) (nn_PF20.map (fun x => x.1)) (nn_PS20.map (fun x => x.1)) fk_m_readNumberP 2 nn_dt227 3 1
theorem fs_m_readNumberP_0 {G : fw_K} {R : fw_KR} (hG : fw_cls st_m_readNumberP R G) {x y : Int} {σ : ab_SG} (h : sp_m_isNumberP [(2, 93, 0), (0, 0, x), (0, 0, y)] σ (fun rv σ2 => G 6 [some (2, 93, 0), some (0, 0, x), some (0, 0, y)] (rv.toList ++ []) σ2)) : G 0 [some (2, 93, 0), some (0, 0, x), some (0, 0, y)] [] σ := fw_on hG [6, 15] 200 h
theorem fs_m_readNumberP_6 {G : fw_K} {R : fw_KR} (hG : fw_cls st_m_readNumberP R G) {a1 a2 b0 : Int} {σ : ab_SG} (h : (fw_c b0 ≠ 0 → sp_m_go [(2, 93, 0)] σ (fun rv σ2 => G 15 [some (2, 93, 0), some (0, 0, a1), some (0, 0, a2)] (rv.toList ++ []) σ2)) ∧ (fw_c b0 = 0 → (0 ≤ fw_c 0 ∧ fw_c 0 ≤ 1) ∧ R (some (0, 0, 0)) σ)) : G 6 [some (2, 93, 0), some (0, 0, a1), some (0, 0, a2)] [(0, 0, b0)] σ := fw_on hG [6, 15] 200 h
theorem fs_m_readNumberP_15 {G : fw_K} {R : fw_KR} (hG : fw_cls st_m_readNumberP R G) {a1 a2 : Int} {σ : ab_SG} (h : (0 ≤ fw_c 1 ∧ fw_c 1 ≤ 1) ∧ R (some (0, 0, 1)) σ) : G 15 [some (2, 93, 0), some (0, 0, a1), some (0, 0, a2)] [] σ := fw_on hG [6, 15] 200 h
abbrev fk_m_findIn99 : List fw_CR := []
abbrev st_m_findIn99 : fw_K → fw_KR → fw_K := fw_st vwCl nn_sh nn_kd fw_kv fw_wc (nn_KI20.map (fun x => x.1)) (nn_KJ20.map (fun x => x.1)) (nn_PF20.map (fun x => x.1)) (nn_PS20.map (fun x => x.1)) fk_m_findIn99 0 nn_dt224 6 0
theorem fs_m_findIn99_0 {G : fw_K} {R : fw_KR} (hG : fw_cls st_m_findIn99 R G) {b n w : Int} {σ : ab_SG} (h : G 3 [some (2, 99, 0), some (0, 0, b), some (0, 0, n), some (1, 0, w), none, some (0, 0, 0)] [] σ) : G 0 [some (2, 99, 0), some (0, 0, b), some (0, 0, n), some (1, 0, w), none, none] [] σ := fw_on hG [3] 200 h
theorem fs_m_findIn99_3 {G : fw_K} {R : fw_KR} (hG : fw_cls st_m_findIn99 R G) {a1 a2 a3 a5 : Int} {σ : ab_SG} (h : (fw_c a2 ≤ fw_c a5 → R (some (0, 0, (-1))) σ) ∧ (fw_c a5 < fw_c a2 → (0 ≤ fw_c (a1 + a5) ∧ fw_c (a1 + a5) < ((20 : Nat) : Int)) ∧ ((fw_d (σ 99 (fw_c (a1 + a5)).toNat) ≠ fw_d a3 → G 3 [some (2, 99, 0), some (0, 0, a1), some (0, 0, a2), some (1, 0, a3), none, some (0, 0, a5 + 1)] [] σ) ∧ (fw_d (σ 99 (fw_c (a1 + a5)).toNat) = fw_d a3 → R (some (0, 0, a5)) σ)))) : G 3 [some (2, 99, 0), some (0, 0, a1), some (0, 0, a2), some (1, 0, a3), none, some (0, 0, a5)] [] σ := fw_on hG [3] 200 h
section
variable {l : Launch} {cy : Nat → ClassId} {ad wr cr : Nat → Nat} {D : va_G}
theorem fm_m_isNumberP (hinj : nn_inj ad) : fw_H l cy ad wr cr D 225 1 sp_m_isNumberP := fw_mk hinj (⟨"NameNotesModel", "isNumber", "(II)Z"⟩, prog_14_method_24_code, 3, (Option.some Jvm.ClassFile.FieldType.boolean), 2, true, 1) rfl rfl nn_KI20_ok nn_KJ20_ok nn_PF20_ok nn_PS20_ok (by decide +kernel) rfl rfl (List.forall_mem_cons.mpr ⟨fw_row nn_PM20_ok (x := 168) (k := 0) (mn := 221) (np := 1) (ob := true) (ci := 11) (⟨"NameNotesModel", "bad", "(I)Z"⟩, prog_14_method_23_code, 2, (Option.some Jvm.ClassFile.FieldType.boolean), 1, true, 1) rfl (by decide +kernel) rfl rfl (by decide) (fun _ => ⟨_, _, rfl⟩) (fm_m_bad hinj), (List.forall_mem_cons.mpr ⟨fw_row nn_PM20_ok (x := 171) (k := 0) (mn := 226) (np := 3) (ob := false) (ci := 0) (⟨"NameNotesModel", "isIn", "(III)Z"⟩, prog_14_method_8_code, 3, (Option.some Jvm.ClassFile.FieldType.boolean), 3, false, 1) rfl (by decide +kernel) rfl rfl (by decide) (fun q => by cases q) (fm_m_isIn hinj), (fun _ h => absurd h List.not_mem_nil)⟩)⟩) (fun as σ K h => by
  obtain ⟨a, b, e, p, rfl, hab, hm, h0, h1⟩ := h
  have mk := mg_kind hm
  have ek : fw_c (σ 93 7) = σ 93 7 := fw_c_id (by omega) (by omega)
  have e3 : fw_c 3 = 3 := fw_c_id (by decide) (by decide)
  have ea : fw_c a = a := fw_c_id (by omega) (by omega)
  have eb : fw_c b = b := fw_c_id (by omega) (by omega)
  unfold pr_nm at h0 h1
  refine ⟨rfl, fun G hG => fs_m_isNumberP_0 hG ?_⟩
  rw [ek, e3]
  refine ⟨fun q => ?_, fun q => ?_⟩
  · have k3 := mk.2.1.mp q
    obtain ⟨-, e8, n0, n1⟩ := hm.2.2.2.2.2.1 k3
    have ec : fw_c (tk e p).2.2.2.2 = (tk e p).2.2.2.2 := fw_c_id (by omega) (by omega)
    rw [if_pos k3] at h0 h1
    rw [e8]
    refine ⟨_, _, _, rfl, fs_m_isNumberP_23 hG ?_⟩
    rw [e8, ec, ea, eb]
    refine ⟨fun z => ⟨fw_11, ?_⟩, fun z => ?_⟩
    · have z := fw_bo_ne z
      rw [if_pos z] at h1
      exact h1 rfl z.1 z.2
    · have z := fw_bo_eq z
      rw [if_neg z] at h0
      refine mp_bad hm (by decide) (fun σ' hM h10 h11 => fs_m_isNumberP_31 hG ⟨fw_01, h0 (by decide) σ' (fw_okM_tr (fw_okM_refl _ _) hM (by decide)) ?_ h11⟩)
      rw [h10, if_neg (by omega)]
  · have k3 : ¬ (tk e p).1 = 3 := fun y => q (mk.2.1.mpr y)
    rw [if_neg k3] at h0
    refine mp_bad hm (by decide) (fun σ' hM h10 h11 => fs_m_isNumberP_13 hG ⟨fw_01, h0 (by decide) σ' (fw_okM_tr (fw_okM_refl _ _) hM (by decide)) ?_ h11⟩)
    rw [h10]
    split <;> rfl)
theorem fm_m_readNumberP (hinj : nn_inj ad) : fw_H l cy ad wr cr D 227 2 sp_m_readNumberP := fw_mk hinj (⟨"NameNotesModel", "readNumber", "(II)Z"⟩, prog_14_method_25_code, 3, (Option.some Jvm.ClassFile.FieldType.boolean), 2, true, 1) rfl rfl nn_KI20_ok nn_KJ20_ok nn_PF20_ok nn_PS20_ok (by decide +kernel) rfl rfl (List.forall_mem_cons.mpr ⟨fw_row nn_PM20_ok (x := 178) (k := 0) (mn := 225) (np := 2) (ob := true) (ci := 11) (⟨"NameNotesModel", "isNumber", "(II)Z"⟩, prog_14_method_24_code, 3, (Option.some Jvm.ClassFile.FieldType.boolean), 2, true, 1) rfl (by decide +kernel) rfl rfl (by decide) (fun _ => ⟨_, _, rfl⟩) (fm_m_isNumberP hinj), (List.forall_mem_cons.mpr ⟨fw_row nn_PM20_ok (x := 182) (k := 0) (mn := 212) (np := 0) (ob := true) (ci := 11) (⟨"NameNotesModel", "go", "()V"⟩, prog_14_method_17_code, 5, (Option.none : Option Jvm.ClassFile.FieldType), 0, true, 4) rfl (by decide +kernel) rfl rfl (by decide) (fun _ => ⟨_, _, rfl⟩) (fm_m_go hinj), (fun _ h => absurd h List.not_mem_nil)⟩)⟩) (fun as σ K h => by
  obtain ⟨a, b, e, p, rfl, hab, hm, h0, h1⟩ := h
  refine ⟨rfl, fun G hG => fs_m_readNumberP_0 hG ⟨a, b, e, p, rfl, hab, hm.1, fun q σ' hM h10 h11 => ?_, fun q qa qb => ?_⟩⟩
  · exact fs_m_readNumberP_6 hG ⟨fun z => absurd fw_c0 z, fun _ => ⟨fw_01, h0 q σ' hM h10 h11⟩⟩
  · refine fs_m_readNumberP_6 hG ⟨fun _ => mt_go (mt_ups hm (Or.inr ⟨rfl, Nat.le_refl _⟩)) (fun σ' hM hs => fs_m_readNumberP_15 hG ⟨fw_11, h1 q σ' ?_ ?_ hs⟩), fun z => absurd (fw_c1.symm.trans z) (by decide)⟩
    · exact fw_okM_tr (fw_okM_ups (fw_okM_refl _ _) (by decide)) hM (by decide)
    · exact (hM 93 13 (by decide)).trans ab_ups_eq)
theorem fm_m_findIn99 (hinj : nn_inj ad) : fw_H l cy ad wr cr D 224 0 sp_m_findIn99 := fw_mk hinj (⟨"NameNotesModel", "findIn", "([JIIJ)I"⟩, prog_14_method_29_code, 6, (Option.some Jvm.ClassFile.FieldType.int), 4, false, 0) rfl rfl nn_KI20_ok nn_KJ20_ok nn_PF20_ok nn_PS20_ok (by decide +kernel) rfl rfl (fun _ h => absurd h List.not_mem_nil) (fun as σ K h => by
  obtain ⟨b, n, w, rfl, hbn, hw, hd, h⟩ := h
  have en : fw_c (n : Int) = n := fw_c_id (by omega) (by omega)
  refine ⟨rfl, fun G hG => fs_m_findIn99_0 hG ?_⟩
  have key : ∀ (f i : Nat), i + f = n → K (some (0, 0, rw_fd (fun j => σ 99 (b + j)) w f i)) σ → G 3 [some (2, 99, 0), some (0, 0, (b : Int)), some (0, 0, (n : Int)), some (1, 0, w), none, some (0, 0, (i : Int))] [] σ := by
    intro f
    induction f with
    | zero =>
      intro i hi q
      have ei : fw_c (i : Int) = i := fw_c_id (by omega) (by omega)
      refine fs_m_findIn99_3 hG ?_
      rw [en, ei]
      exact ⟨fun _ => q, fun z => absurd z (by omega)⟩
    | succ f ih =>
      intro i hi q
      have ei : fw_c (i : Int) = i := fw_c_id (by omega) (by omega)
      have ebi : fw_c ((b : Int) + i) = ((b + i : Nat) : Int) := by rw [fw_c_id (by omega) (by omega)]; omega
      replace q : K (some (0, 0, if σ 99 (b + i) = w then (i : Int) else rw_fd (fun j => σ 99 (b + j)) w f (i + 1))) σ := q
      refine fs_m_findIn99_3 hG ?_
      rw [en, ei, ebi, Int.toNat_natCast, hd i (by omega), hw]
      refine ⟨fun z => absurd z (by omega), fun _ => ⟨⟨Int.natCast_nonneg _, by omega⟩, fun z => ?_, fun z => ?_⟩⟩
      · rw [if_neg z] at q
        exact ih (i + 1) (by omega) q
      · rw [if_pos z] at q
        exact q
  exact key n 0 (by omega) h)
end
end
section
/-! the relation over an evening -/
abbrev eo (σ : ab_SG) : tk_E := (tp_t σ, (σ 1 1).toNat, 400)
theorem NM_V {M : ab_ML} {σ σ1 σm A : ab_SG} (hc : cN σ) (hi : RI A) (hn : nb_is A) (hs : sr_is (mlN σ) (σ 99) A) (h1 : ab_okM M σ σ1) (hv : vW σm σ1) (m95 : M.all (fun q => !(q.1.beq 95)) = true) (m99 : M.all (fun q => !(q.1.beq 99)) = true) (m22 : mk_b M 93 22 = true) : NM σm A :=
  ⟨hi, hn, sr_cong hi (fun j hj _ => mlN_same (xm_at hc h1 hv (Or.inl (su93 (Or.inr rfl))) m22) (fun j hj => xm_at hc h1 hv (Or.inr (swr (by decide) hj)) (off_mk m95 j)) j hj) (fun j hj => xm_l hc h1 hv (slr (by decide) hj) (off_mk m99 j)) hs⟩
end
section
/-! a sentence as it is read: faults, where, how many ones, its steps; the class reads it -/
abbrev sn_T : Type := Int × Int × Nat × Nat
abbrev sn_st (e : tk_E) (p : Nat) : Prop := (tk e p).1 = 40 ∨ (9 ≤ tw e p ∧ tw e p ≤ 16)
def sn_nm (A : ab_SG) (e : tk_E) (k9 : Nat) (n : Int) (o p : Nat) : sn_T := if pr_sk A e k9 n p ≠ 0 then (pr_sk A e k9 n p, ev_st e p, o, p) else (0, 0, o, tn e p)
def sn_ms (e : tk_E) (o p : Nat) : sn_T := if ¬ (60 ≤ (tk e p).1 ∧ (tk e p).1 ≤ 62) then (1, ev_st e p, o, p) else if (tk e (tn e p)).1 ≠ 3 then (1, ev_st e (tn e p), o, tn e p) else (0, 0, o, tn e (tn e p))
def sn_lp (one : Nat → Nat → sn_T) (e : tk_E) : Nat → Nat → Nat → sn_T
  | 0, o, p => (0, 0, o, p)
  | g + 1, o, p => if tw e p = 8 ∨ tw e p = 7 then (if (one o (tn e p)).1 ≠ 0 then one o (tn e p) else sn_lp one e g (one o (tn e p)).2.2.1 (one o (tn e p)).2.2.2) else (0, 0, o, p)
def sn_cd (one : Nat → Nat → sn_T) (e : tk_E) (o p : Nat) : sn_T := if (one o p).1 ≠ 0 then one o p else sn_lp one e 20 (one o p).2.2.1 (one o p).2.2.2
/-- a bracket closes -/
def sn_br (e : tk_E) (r : sn_T) : sn_T := if r.1 ≠ 0 then r else if (tk e r.2.2.2).1 ≠ 41 then (1, ev_st e r.2.2.2, r.2.2.1, r.2.2.2) else (0, 0, r.2.2.1, tn e r.2.2.2)
def sn_one (A : ab_SG) (e : tk_E) : Nat → Nat → Nat → sn_T
  | 0, o, p => if sn_st e p then (4, ev_st e p, o, p) else (1, ev_st e p, o, p)
  | k + 1, o, p => if ¬ sn_st e p then (1, ev_st e p, o, p) else if 20 ≤ o then (4, ev_st e p, o, p)
    else if (tk e p).1 = 40 then sn_br e (sn_cd (sn_one A e k) e (o + 1) (tn e p))
    else if tw e p = 9 then sn_one A e k (o + 1) (tn e p)
    else if tw e p = 10 then sn_nm A e 58 (A 49 12) (o + 1) (tn e p)
    else if tw e p = 11 then sn_nm A e 59 (A 49 13) (o + 1) (tn e p)
    else if tw e p = 12 then sn_nm A e 57 (A 49 11) (o + 1) (tn e p)
    else sn_ms e (o + 1) (tn e p)
/-- the whole of it -/
def sn_r (A : ab_SG) (e : tk_E) : sn_T := if (sn_cd (sn_one A e 8) e 0 0).1 ≠ 0 then sn_cd (sn_one A e 8) e 0 0 else if (tk e (sn_cd (sn_one A e 8) e 0 0).2.2.2).1 ≠ 0 then (1, ev_st e (sn_cd (sn_one A e 8) e 0 0).2.2.2, (sn_cd (sn_one A e 8) e 0 0).2.2.1, (sn_cd (sn_one A e 8) e 0 0).2.2.2) else sn_cd (sn_one A e 8) e 0 0
def v_se (A : ab_SG) (e : tk_E) : Int := if (sn_r A e).1 ≠ 0 then -1 - (sn_r A e).2.1 else ((sn_r A e).2.2.1 : Int)
theorem sn_lps (one : Nat → Nat → sn_T) (e : tk_E) (g o p : Nat) : sn_lp one e (g + 1) o p = if tw e p = 8 ∨ tw e p = 7 then (if (one o (tn e p)).1 ≠ 0 then one o (tn e p) else sn_lp one e g (one o (tn e p)).2.2.1 (one o (tn e p)).2.2.2) else (0, 0, o, p) := rfl
/-- ones only grow, and stay within twenty -/
def sn_gr (one : Nat → Nat → sn_T) : Prop := ∀ o p : Nat, o ≤ 20 → (one o p).1 = 0 → o + 1 ≤ (one o p).2.2.1 ∧ (one o p).2.2.1 ≤ 20
theorem sn_lp_gr {one : Nat → Nat → sn_T} {e : tk_E} (h : sn_gr one) : ∀ (g o p : Nat), o ≤ 20 → (sn_lp one e g o p).1 = 0 → o ≤ (sn_lp one e g o p).2.2.1 ∧ (sn_lp one e g o p).2.2.1 ≤ 20 := by
  intro g
  induction g with
  | zero => intro o p ho _; exact ⟨Nat.le_refl o, ho⟩
  | succ g ih =>
    intro o p ho hz
    rw [sn_lps] at hz ⊢
    by_cases c : tw e p = 8 ∨ tw e p = 7
    · rw [if_pos c] at hz ⊢
      by_cases d : (one o (tn e p)).1 ≠ 0
      · rw [if_pos d] at hz
        exact absurd hz d
      · rw [if_neg d] at hz ⊢
        have a := h o (tn e p) ho (by omega)
        have b := ih _ _ a.2 hz
        omega
    · rw [if_neg c]
      exact ⟨Nat.le_refl o, ho⟩
theorem sn_cd_gr {one : Nat → Nat → sn_T} {e : tk_E} (h : sn_gr one) : sn_gr (sn_cd one e) := by
  intro o p ho hz
  unfold sn_cd at hz ⊢
  by_cases d : (one o p).1 ≠ 0
  · rw [if_pos d] at hz
    exact absurd hz d
  · rw [if_neg d] at hz ⊢
    have a := h o p ho (by omega)
    have b := sn_lp_gr h 20 _ _ a.2 hz
    omega
theorem sn_nm_0 {A : ab_SG} {e : tk_E} {k9 : Nat} {n : Int} {o p : Nat} (h : (sn_nm A e k9 n o p).1 = 0) : pr_sk A e k9 n p = 0 ∧ sn_nm A e k9 n o p = (0, 0, o, tn e p) := by
  unfold sn_nm at h ⊢
  by_cases d : pr_sk A e k9 n p ≠ 0
  · rw [if_pos d] at h
    exact absurd h d
  · rw [if_neg d]
    exact ⟨by omega, rfl⟩
theorem sn_ms_0 {e : tk_E} {o p : Nat} (h : (sn_ms e o p).1 = 0) : sn_ms e o p = (0, 0, o, tn e (tn e p)) := by
  unfold sn_ms at h ⊢
  by_cases c : ¬ (60 ≤ (tk e p).1 ∧ (tk e p).1 ≤ 62)
  · rw [if_pos c] at h
    exact absurd h (by show ¬ ((1 : Int) = 0); decide)
  rw [if_neg c] at h ⊢
  by_cases d : (tk e (tn e p)).1 ≠ 3
  · rw [if_pos d] at h
    exact absurd h (by show ¬ ((1 : Int) = 0); decide)
  · rw [if_neg d]
theorem sn_br_0 {e : tk_E} {r : sn_T} (h : (sn_br e r).1 = 0) : r.1 = 0 ∧ (sn_br e r).2.2.1 = r.2.2.1 := by
  unfold sn_br at h ⊢
  by_cases c : r.1 ≠ 0
  · rw [if_pos c] at h
    exact absurd h c
  rw [if_neg c] at h ⊢
  by_cases d : (tk e r.2.2.2).1 ≠ 41
  · rw [if_pos d] at h
    exact absurd h (by show ¬ ((1 : Int) = 0); decide)
  · rw [if_neg d]
    exact ⟨by omega, rfl⟩
theorem sn_one_s (A : ab_SG) (e : tk_E) (k o p : Nat) : sn_one A e (k + 1) o p = if ¬ sn_st e p then (1, ev_st e p, o, p) else if 20 ≤ o then (4, ev_st e p, o, p)
    else if (tk e p).1 = 40 then sn_br e (sn_cd (sn_one A e k) e (o + 1) (tn e p))
    else if tw e p = 9 then sn_one A e k (o + 1) (tn e p)
    else if tw e p = 10 then sn_nm A e 58 (A 49 12) (o + 1) (tn e p)
    else if tw e p = 11 then sn_nm A e 59 (A 49 13) (o + 1) (tn e p)
    else if tw e p = 12 then sn_nm A e 57 (A 49 11) (o + 1) (tn e p)
    else sn_ms e (o + 1) (tn e p) := rfl
theorem sn_one_gr (A : ab_SG) (e : tk_E) : ∀ k : Nat, sn_gr (sn_one A e k) := by
  intro k
  induction k with
  | zero =>
    intro o p ho hz
    have e0 : sn_one A e 0 o p = if sn_st e p then (4, ev_st e p, o, p) else (1, ev_st e p, o, p) := rfl
    rw [e0] at hz
    split at hz
    · exact absurd hz (by show ¬ ((4 : Int) = 0); decide)
    · exact absurd hz (by show ¬ ((1 : Int) = 0); decide)
  | succ k ih =>
    intro o p ho hz
    rw [sn_one_s] at hz ⊢
    by_cases c : ¬ sn_st e p
    · rw [if_pos c] at hz
      exact absurd hz (by show ¬ ((1 : Int) = 0); decide)
    rw [if_neg c] at hz ⊢
    by_cases d : 20 ≤ o
    · rw [if_pos d] at hz
      exact absurd hz (by show ¬ ((4 : Int) = 0); decide)
    rw [if_neg d] at hz ⊢
    by_cases c1 : (tk e p).1 = 40
    · rw [if_pos c1] at hz ⊢
      have b := sn_br_0 hz
      have g := sn_cd_gr (e := e) ih (o + 1) (tn e p) (by omega) b.1
      rw [b.2]
      omega
    rw [if_neg c1] at hz ⊢
    by_cases c2 : tw e p = 9
    · rw [if_pos c2] at hz ⊢
      have g := ih (o + 1) (tn e p) (by omega) hz
      omega
    rw [if_neg c2] at hz ⊢
    have nm : ∀ (k9 : Nat) (n : Int), (sn_nm A e k9 n (o + 1) (tn e p)).1 = 0 → o + 1 ≤ (sn_nm A e k9 n (o + 1) (tn e p)).2.2.1 ∧ (sn_nm A e k9 n (o + 1) (tn e p)).2.2.1 ≤ 20 := fun k9 n q => by
      rw [(sn_nm_0 q).2]
      exact ⟨Nat.le_refl _, by show o + 1 ≤ 20; omega⟩
    by_cases c3 : tw e p = 10
    · rw [if_pos c3] at hz ⊢
      exact nm _ _ hz
    rw [if_neg c3] at hz ⊢
    by_cases c4 : tw e p = 11
    · rw [if_pos c4] at hz ⊢
      exact nm _ _ hz
    rw [if_neg c4] at hz ⊢
    by_cases c5 : tw e p = 12
    · rw [if_pos c5] at hz ⊢
      exact nm _ _ hz
    rw [if_neg c5] at hz ⊢
    rw [sn_ms_0 hz]
    exact ⟨Nat.le_refl _, by show o + 1 ≤ 20; omega⟩
/-! its steps, as the class's rows and the reference's nodes have them -/
abbrev sl_T : Type := List (Int × Int)
def fl (w : Bool) : sl_T := if w = true then [(2, 0)] else []
/-- what a word begins (-1: nothing) -/
def sk_v (e : tk_E) (p : Nat) : Int := if tw e p = 9 then 0 else if tw e p = 10 then 3 else if tw e p = 11 then 4 else if tw e p = 12 then 5 else if tw e p = 13 then 6 else if tw e p = 14 then 9 else if tw e p = 15 then 12 else if tw e p = 16 then 15 else -1
def sl_lp (one : Nat → Nat → sn_T) (ol : Nat → Nat → sl_T) (e : tk_E) : Nat → Bool → Nat → Nat → sl_T
  | 0, w, _, _ => fl w
  | g + 1, w, o, p => if tw e p = 8 then ol o (tn e p) ++ ([(1, 0)] ++ sl_lp one ol e g w (one o (tn e p)).2.2.1 (one o (tn e p)).2.2.2)
    else if tw e p = 7 then fl w ++ (ol o (tn e p) ++ sl_lp one ol e g true (one o (tn e p)).2.2.1 (one o (tn e p)).2.2.2) else fl w
def sl_cd (one : Nat → Nat → sn_T) (ol : Nat → Nat → sl_T) (e : tk_E) (o p : Nat) : sl_T := ol o p ++ sl_lp one ol e 20 false (one o p).2.2.1 (one o p).2.2.2
def sl_nm (A : ab_SG) (e : tk_E) (k9 : Nat) (n k : Int) (p : Nat) : sl_T := [(k, pr_ix A e k9 n p)]
def sl_ms (e : tk_E) (p : Nat) (k : Int) : sl_T := [(k + ((tk e p).1 - 60), (tk e (tn e p)).2.2.2.2)]
def sl_one (A : ab_SG) (e : tk_E) : Nat → Nat → Nat → sl_T
  | 0, _, _ => []
  | k + 1, o, p => if (tk e p).1 = 40 then sl_cd (sn_one A e k) (sl_one A e k) e (o + 1) (tn e p)
    else if tw e p = 9 then sl_one A e k (o + 1) (tn e p) ++ [(0, 0)]
    else if tw e p = 10 then sl_nm A e 58 (A 49 12) 3 (tn e p)
    else if tw e p = 11 then sl_nm A e 59 (A 49 13) 4 (tn e p)
    else if tw e p = 12 then sl_nm A e 57 (A 49 11) 5 (tn e p)
    else sl_ms e (tn e p) (sk_v e p)
def sl_r (A : ab_SG) (e : tk_E) : sl_T := sl_cd (sn_one A e 8) (sl_one A e 8) e 0 0
theorem sl_lps (one : Nat → Nat → sn_T) (ol : Nat → Nat → sl_T) (e : tk_E) (g : Nat) (w : Bool) (o p : Nat) : sl_lp one ol e (g + 1) w o p = if tw e p = 8 then ol o (tn e p) ++ ([(1, 0)] ++ sl_lp one ol e g w (one o (tn e p)).2.2.1 (one o (tn e p)).2.2.2)
    else if tw e p = 7 then fl w ++ (ol o (tn e p) ++ sl_lp one ol e g true (one o (tn e p)).2.2.1 (one o (tn e p)).2.2.2) else fl w := rfl
theorem sl_one_s (A : ab_SG) (e : tk_E) (k o p : Nat) : sl_one A e (k + 1) o p = if (tk e p).1 = 40 then sl_cd (sn_one A e k) (sl_one A e k) e (o + 1) (tn e p)
    else if tw e p = 9 then sl_one A e k (o + 1) (tn e p) ++ [(0, 0)]
    else if tw e p = 10 then sl_nm A e 58 (A 49 12) 3 (tn e p)
    else if tw e p = 11 then sl_nm A e 59 (A 49 13) 4 (tn e p)
    else if tw e p = 12 then sl_nm A e 57 (A 49 11) 5 (tn e p)
    else sl_ms e (tn e p) (sk_v e p) := rfl
/-- a step that speaks of what is there -/
def vs (A : ab_SG) (q : Int × Int) : Prop := ((0 ≤ q.1 ∧ q.1 ≤ 2) ∧ q.2 = 0) ∨ (q.1 = 3 ∧ 0 ≤ q.2 ∧ q.2 < A 49 12) ∨ (q.1 = 4 ∧ 0 ≤ q.2 ∧ q.2 < A 49 13) ∨ (q.1 = 5 ∧ 0 ≤ q.2 ∧ q.2 < A 49 11) ∨ ((6 ≤ q.1 ∧ q.1 ≤ 17) ∧ fw_c q.2 = q.2)
theorem fl_n (w : Bool) : (fl w).length = w.toNat := by cases w <;> rfl
theorem vs_s {A : ab_SG} {k : Int} (h : 0 ≤ k ∧ k ≤ 2) : ∀ q ∈ ([(k, 0)] : sl_T), vs A q := fun q hq => by
  rw [List.mem_singleton.mp hq]
  exact Or.inl ⟨h, rfl⟩
theorem fl_v (A : ab_SG) (w : Bool) : ∀ q ∈ fl w, vs A q := by
  cases w
  · exact fun q h => absurd h List.not_mem_nil
  · exact vs_s ⟨by decide, by decide⟩
theorem vs_a {A : ab_SG} {L1 L2 : sl_T} (h1 : ∀ q ∈ L1, vs A q) (h2 : ∀ q ∈ L2, vs A q) : ∀ q ∈ L1 ++ L2, vs A q := fun q h => (List.mem_append.mp h).elim (h1 q) (h2 q)
def sl_gd (A : ab_SG) (one : Nat → Nat → sn_T) (ol : Nat → Nat → sl_T) : Prop := ∀ o p : Nat, o ≤ 20 → (one o p).1 = 0 → (ol o p).length + 1 + 2 * o ≤ 2 * (one o p).2.2.1 ∧ ∀ q ∈ ol o p, vs A q
theorem sl_lp_ok {A : ab_SG} {one : Nat → Nat → sn_T} {ol : Nat → Nat → sl_T} {e : tk_E} (hg : sn_gr one) (h : sl_gd A one ol) : ∀ (g : Nat) (w : Bool) (o p : Nat), o ≤ 20 → (sn_lp one e g o p).1 = 0 → (sl_lp one ol e g w o p).length + 2 * o ≤ 2 * (sn_lp one e g o p).2.2.1 + w.toNat ∧ ∀ q ∈ sl_lp one ol e g w o p, vs A q := by
  intro g
  induction g with
  | zero =>
    intro w o p _ _
    refine ⟨?_, fl_v A w⟩
    show (fl w).length + 2 * o ≤ 2 * o + w.toNat
    rw [fl_n]
    omega
  | succ g ih =>
    intro w o p ho hz
    rw [sn_lps] at hz ⊢
    rw [sl_lps]
    by_cases c : tw e p = 8 ∨ tw e p = 7
    · rw [if_pos c] at hz ⊢
      by_cases d : (one o (tn e p)).1 ≠ 0
      · rw [if_pos d] at hz
        exact absurd hz d
      rw [if_neg d] at hz ⊢
      have d0 : (one o (tn e p)).1 = 0 := by omega
      have a := hg o (tn e p) ho d0
      have b := h o (tn e p) ho d0
      by_cases c8 : tw e p = 8
      · have r := ih w _ _ a.2 hz
        rw [if_pos c8]
        refine ⟨?_, vs_a b.2 (vs_a (vs_s ⟨by decide, by decide⟩) r.2)⟩
        rw [List.length_append, List.length_append, List.length_singleton]
        have r1 := r.1
        have b1 := b.1
        omega
      · have r := ih true _ _ a.2 hz
        rw [if_neg c8, if_pos (c.resolve_left c8)]
        refine ⟨?_, vs_a (fl_v A w) (vs_a b.2 r.2)⟩
        rw [List.length_append, List.length_append, fl_n]
        have r1 := r.1
        have b1 := b.1
        rw [show true.toNat = 1 from rfl] at r1
        omega
    · rw [if_neg c, if_neg (fun z => c (Or.inl z)), if_neg (fun z => c (Or.inr z))]
      refine ⟨?_, fl_v A w⟩
      show (fl w).length + 2 * o ≤ 2 * o + w.toNat
      rw [fl_n]
      omega
theorem sl_cd_ok {A : ab_SG} {one : Nat → Nat → sn_T} {ol : Nat → Nat → sl_T} {e : tk_E} (hg : sn_gr one) (h : sl_gd A one ol) : sl_gd A (sn_cd one e) (sl_cd one ol e) := by
  intro o p ho hz
  unfold sn_cd at hz ⊢
  by_cases d : (one o p).1 ≠ 0
  · rw [if_pos d] at hz
    exact absurd hz d
  rw [if_neg d] at hz ⊢
  have d0 : (one o p).1 = 0 := by omega
  have a := hg o p ho d0
  have b := h o p ho d0
  have r := sl_lp_ok hg h 20 false _ _ a.2 hz
  refine ⟨?_, vs_a b.2 r.2⟩
  show (ol o p ++ sl_lp one ol e 20 false (one o p).2.2.1 (one o p).2.2.2).length + 1 + 2 * o ≤ _
  rw [List.length_append]
  have r1 := r.1
  have b1 := b.1
  rw [show false.toNat = 0 from rfl] at r1
  omega
theorem sl_nm_v {A : ab_SG} {e : tk_E} {k9 : Nat} {n k : Int} {o p : Nat} (h : (sn_nm A e k9 n o p).1 = 0) (hn : 0 ≤ n) : 0 ≤ pr_ix A e k9 n p ∧ pr_ix A e k9 n p < n := by
  have x := pr_sk_0 (sn_nm_0 h).1
  refine ⟨x.2.2.1, ?_⟩
  by_cases z : n = 0
  · exfalso
    have y : pr_ix A e k9 n p = -1 := by
      unfold pr_ix
      rw [z]
      rfl
    have := x.2.2.1
    omega
  · have := x.2.2.2
    omega
theorem sl_ms_3 {e : tk_E} {o p : Nat} (h : (sn_ms e o p).1 = 0) : (60 ≤ (tk e p).1 ∧ (tk e p).1 ≤ 62) ∧ (tk e (tn e p)).1 = 3 := by
  unfold sn_ms at h
  by_cases c : ¬ (60 ≤ (tk e p).1 ∧ (tk e p).1 ≤ 62)
  · rw [if_pos c] at h
    exact absurd h (by show ¬ ((1 : Int) = 0); decide)
  rw [if_neg c] at h
  by_cases d : (tk e (tn e p)).1 ≠ 3
  · rw [if_pos d] at h
    exact absurd h (by show ¬ ((1 : Int) = 0); decide)
  · exact ⟨Classical.byContradiction c, Classical.byContradiction d⟩
theorem sk_in (e : tk_E) (p : Nat) : (sk_v e p = -1 ∧ ¬ (9 ≤ tw e p ∧ tw e p ≤ 16)) ∨ (tw e p = 9 ∧ sk_v e p = 0) ∨ (tw e p = 10 ∧ sk_v e p = 3) ∨ (tw e p = 11 ∧ sk_v e p = 4) ∨ (tw e p = 12 ∧ sk_v e p = 5) ∨ ((13 ≤ tw e p ∧ tw e p ≤ 16) ∧ 6 ≤ sk_v e p ∧ sk_v e p ≤ 15) := by
  unfold sk_v
  by_cases c9 : tw e p = 9
  · rw [if_pos c9]; omega
  rw [if_neg c9]
  by_cases c10 : tw e p = 10
  · rw [if_pos c10]; omega
  rw [if_neg c10]
  by_cases c11 : tw e p = 11
  · rw [if_pos c11]; omega
  rw [if_neg c11]
  by_cases c12 : tw e p = 12
  · rw [if_pos c12]; omega
  rw [if_neg c12]
  by_cases c13 : tw e p = 13
  · rw [if_pos c13]; omega
  rw [if_neg c13]
  by_cases c14 : tw e p = 14
  · rw [if_pos c14]; omega
  rw [if_neg c14]
  by_cases c15 : tw e p = 15
  · rw [if_pos c15]; omega
  rw [if_neg c15]
  by_cases c16 : tw e p = 16
  · rw [if_pos c16]; omega
  rw [if_neg c16]
  omega
theorem sl_one_ok (A : ab_SG) (e : tk_E) (hi : 0 ≤ A 49 11 ∧ 0 ≤ A 49 12 ∧ 0 ≤ A 49 13) : ∀ k : Nat, sl_gd A (sn_one A e k) (sl_one A e k) := by
  intro k
  induction k with
  | zero =>
    intro o p ho hz
    have e0 : sn_one A e 0 o p = if sn_st e p then (4, ev_st e p, o, p) else (1, ev_st e p, o, p) := rfl
    rw [e0] at hz
    split at hz
    · exact absurd hz (by show ¬ ((4 : Int) = 0); decide)
    · exact absurd hz (by show ¬ ((1 : Int) = 0); decide)
  | succ k ih =>
    intro o p ho hz
    have gk := sn_one_gr A e k
    rw [sn_one_s] at hz ⊢
    rw [sl_one_s]
    by_cases c : ¬ sn_st e p
    · rw [if_pos c] at hz
      exact absurd hz (by show ¬ ((1 : Int) = 0); decide)
    rw [if_neg c] at hz ⊢
    by_cases d : 20 ≤ o
    · rw [if_pos d] at hz
      exact absurd hz (by show ¬ ((4 : Int) = 0); decide)
    rw [if_neg d] at hz ⊢
    by_cases c1 : (tk e p).1 = 40
    · rw [if_pos c1] at hz ⊢
      rw [if_pos c1]
      have b := sn_br_0 hz
      have g := sl_cd_ok (e := e) gk ih (o + 1) (tn e p) (by omega) b.1
      rw [b.2]
      exact ⟨by have := g.1; omega, g.2⟩
    rw [if_neg c1] at hz ⊢
    rw [if_neg c1]
    by_cases c2 : tw e p = 9
    · rw [if_pos c2] at hz ⊢
      rw [if_pos c2]
      have g := ih (o + 1) (tn e p) (by omega) hz
      refine ⟨?_, vs_a g.2 (vs_s ⟨by decide, by decide⟩)⟩
      rw [List.length_append, List.length_singleton]
      have := g.1
      omega
    rw [if_neg c2] at hz ⊢
    rw [if_neg c2]
    have nm : ∀ (k9 : Nat) (n x : Int), 0 ≤ n → (∀ v : Int, 0 ≤ v → v < n → vs A (x, v)) → (sn_nm A e k9 n (o + 1) (tn e p)).1 = 0 → (sl_nm A e k9 n x (tn e p)).length + 1 + 2 * o ≤ 2 * (sn_nm A e k9 n (o + 1) (tn e p)).2.2.1 ∧ ∀ q ∈ sl_nm A e k9 n x (tn e p), vs A q := fun k9 n x hn hv q => by
      have v := sl_nm_v (k := x) q hn
      rw [(sn_nm_0 q).2]
      refine ⟨?_, fun r hr => ?_⟩
      · show 1 + 1 + 2 * o ≤ 2 * (o + 1)
        omega
      · rw [List.mem_singleton.mp hr]
        exact hv _ v.1 v.2
    by_cases c3 : tw e p = 10
    · rw [if_pos c3] at hz ⊢
      rw [if_pos c3]
      exact nm _ _ _ hi.2.1 (fun v a b => Or.inr (Or.inl ⟨rfl, a, b⟩)) hz
    rw [if_neg c3] at hz ⊢
    rw [if_neg c3]
    by_cases c4 : tw e p = 11
    · rw [if_pos c4] at hz ⊢
      rw [if_pos c4]
      exact nm _ _ _ hi.2.2 (fun v a b => Or.inr (Or.inr (Or.inl ⟨rfl, a, b⟩))) hz
    rw [if_neg c4] at hz ⊢
    rw [if_neg c4]
    by_cases c5 : tw e p = 12
    · rw [if_pos c5] at hz ⊢
      rw [if_pos c5]
      exact nm _ _ _ hi.1 (fun v a b => Or.inr (Or.inr (Or.inr (Or.inl ⟨rfl, a, b⟩)))) hz
    rw [if_neg c5] at hz ⊢
    rw [if_neg c5]
    have m := sl_ms_3 hz
    have st : 9 ≤ tw e p ∧ tw e p ≤ 16 := (Classical.byContradiction c : sn_st e p).resolve_left c1
    have sv := sk_in e p
    rw [sn_ms_0 hz]
    refine ⟨?_, fun q hq => ?_⟩
    · show 1 + 1 + 2 * o ≤ 2 * (o + 1)
      omega
    · rw [List.mem_singleton.mp hq]
      refine Or.inr (Or.inr (Or.inr (Or.inr ⟨?_, (tk_can e (tn e (tn e p))).2.2 m.2⟩)))
      show 6 ≤ sk_v e p + ((tk e (tn e p)).1 - 60) ∧ sk_v e p + ((tk e (tn e p)).1 - 60) ≤ 17
      omega
theorem sl_r_ok (A : ab_SG) (e : tk_E) (hi : 0 ≤ A 49 11 ∧ 0 ≤ A 49 12 ∧ 0 ≤ A 49 13) (h : (sn_r A e).1 = 0) : (sl_r A e).length + 1 ≤ 40 ∧ (∀ q ∈ sl_r A e, vs A q) ∧ 1 ≤ (sn_r A e).2.2.1 := by
  have er : (sn_cd (sn_one A e 8) e 0 0).1 = 0 ∧ (sn_r A e).2.2.1 = (sn_cd (sn_one A e 8) e 0 0).2.2.1 := by
    unfold sn_r at h ⊢
    by_cases c : (sn_cd (sn_one A e 8) e 0 0).1 ≠ 0
    · rw [if_pos c] at h
      exact absurd h c
    rw [if_neg c] at h ⊢
    by_cases d : (tk e (sn_cd (sn_one A e 8) e 0 0).2.2.2).1 ≠ 0
    · rw [if_pos d] at h
      exact absurd h (by show ¬ ((1 : Int) = 0); decide)
    · rw [if_neg d]
      exact ⟨by omega, rfl⟩
  have g := sl_cd_ok (e := e) (sn_one_gr A e 8) (sl_one_ok A e hi 8) 0 0 (by decide) er.1
  have u := sn_cd_gr (e := e) (sn_one_gr A e 8) 0 0 (by decide) er.1
  refine ⟨?_, g.2, ?_⟩
  · have g1 := g.1
    show (sl_cd (sn_one A e 8) (sl_one A e 8) e 0 0).length + 1 ≤ 40
    omega
  · rw [er.2]
    omega
theorem sn_r_20 (A : ab_SG) (e : tk_E) (h : (sn_r A e).1 = 0) : (sn_r A e).2.2.1 ≤ 20 := by
  unfold sn_r at h ⊢
  by_cases c : (sn_cd (sn_one A e 8) e 0 0).1 ≠ 0
  · rw [if_pos c] at h
    exact absurd h c
  rw [if_neg c] at h ⊢
  have u := sn_cd_gr (e := e) (sn_one_gr A e 8) 0 0 (by decide) (by omega)
  by_cases d : (tk e (sn_cd (sn_one A e 8) e 0 0).2.2.2).1 ≠ 0
  · rw [if_pos d] at h
    exact absurd h (by show ¬ ((1 : Int) = 0); decide)
  · rw [if_neg d]
    exact u.2
theorem vs_c {A : ab_SG} (hi : (0 ≤ A 49 11 ∧ A 49 11 ≤ 9) ∧ (0 ≤ A 49 12 ∧ A 49 12 ≤ 6) ∧ (0 ≤ A 49 13 ∧ A 49 13 ≤ 5)) {q : Int × Int} (h : vs A q) : fw_c q.1 = q.1 ∧ fw_c q.2 = q.2 := by
  rcases h with ⟨a, b⟩ | ⟨a, b⟩ | ⟨a, b⟩ | ⟨a, b⟩ | ⟨a, b⟩
  · exact ⟨fw_s (by omega) (by omega), fw_s (by omega) (by omega)⟩
  · exact ⟨fw_s (by omega) (by omega), fw_s (by omega) (by omega)⟩
  · exact ⟨fw_s (by omega) (by omega), fw_s (by omega) (by omega)⟩
  · exact ⟨fw_s (by omega) (by omega), fw_s (by omega) (by omega)⟩
  · exact ⟨fw_s (by omega) (by omega), b⟩
/-! the class -/
def se_M : ab_ML := (65, 3) :: (66, 1000000) :: (67, 1000000) :: []
def sN_M : ab_ML := (1, 9) :: (1, 10) :: (65, 3) :: (65, 4) :: (66, 1000000) :: (67, 1000000) :: st_M
/-- the steps that stand in the class's rows -/
def pg (σ : ab_SG) (P : sl_T) : Prop := σ 65 3 = (P.length : Int) ∧ ∀ i : Nat, i < P.length → P[i]? = some (σ 66 i, σ 67 i)
/-- what is put behind them -/
def pk (σ σ' : ab_SG) (L : sl_T) : Prop := ∀ P : sl_T, pg σ P → P.length + L.length ≤ 62 → pg σ' (P ++ L)
theorem pk_0 (σ : ab_SG) : pk σ σ [] := fun P h _ => by
  rw [List.append_nil]
  exact h
theorem pk_tr {σ σ1 σ2 : ab_SG} {L1 L2 : sl_T} (h1 : pk σ σ1 L1) (h2 : pk σ1 σ2 L2) : pk σ σ2 (L1 ++ L2) := fun P h n => by
  rw [List.length_append] at n
  rw [← List.append_assoc]
  exact h2 (P ++ L1) (h1 P h (by omega)) (by rw [List.length_append]; omega)
theorem pk_l {σ σ1 σ2 : ab_SG} {L : sl_T} (h1 : pk σ σ1 []) (h2 : pk σ1 σ2 L) : pk σ σ2 L := pk_tr h1 h2
theorem pk_r {σ σ1 σ2 : ab_SG} {L : sl_T} (h1 : pk σ σ1 L) (h2 : pk σ1 σ2 []) : pk σ σ2 L := by
  have h := pk_tr h1 h2
  rw [List.append_nil] at h
  exact h
def pg_m (M : ab_ML) : Bool := mk_b M 65 3 && (M.all (fun q => !(q.1.beq 66)) && M.all (fun q => !(q.1.beq 67)))
theorem pk_k {M : ab_ML} {σ σ' : ab_SG} (hM : ab_okM M σ σ') (m : pg_m M = true) : pk σ σ' [] := fun P h _ => by
  unfold pg_m at m
  rw [Bool.and_eq_true, Bool.and_eq_true] at m
  rw [List.append_nil]
  refine ⟨(mk_at hM m.1).trans h.1, fun i hi => ?_⟩
  rw [mk_row hM m.2.1 i, mk_row hM m.2.2 i]
  exact h.2 i hi
theorem pg_n {σ : ab_SG} {P : sl_T} {σ' : ab_SG} {q : Int × Int} (h : pg σ P) (h3 : σ' 65 3 = (P.length : Int) + 1) (ho : ∀ i : Nat, i < P.length → σ' 66 i = σ 66 i ∧ σ' 67 i = σ 67 i) (hn : σ' 66 P.length = q.1 ∧ σ' 67 P.length = q.2) : pg σ' (P ++ [q]) := by
  refine ⟨?_, fun i hi => ?_⟩
  · rw [h3, List.length_append, List.length_singleton]
    rfl
  rw [List.length_append, List.length_singleton] at hi
  by_cases c : i < P.length
  · rw [List.getElem?_append_left c, (ho i c).1, (ho i c).2]
    exact h.2 i c
  · have e : i = P.length := by omega
    rw [e, List.getElem?_concat_length, hn.1, hn.2]
def bI (w : Bool) : Int := cond w 1 0
theorem bI_0 {w : Bool} (h : fw_c (bI w) = 0) : w = false := by
  cases w with
  | false => rfl
  | true => exact absurd (fw_c1.symm.trans h) (by decide)
theorem bI_1 {w : Bool} (h : fw_c (bI w) ≠ 0) : w = true := by
  cases w with
  | false => exact absurd fw_c0 h
  | true => rfl
theorem bI_a (w : Bool) : fw_op 9 (bI w) 0 = bI w := by cases w <;> decide +kernel
theorem bI_o (w : Bool) : fw_op 9 (bI w) 1 = bI true := by cases w <;> decide +kernel
def sl_post (σ : ab_SG) (r : sn_T) (L : sl_T) (e : tk_E) (K : fw_KR) : Prop := (r.1 ≠ 0 → ∀ σ' : ab_SG, ab_okM sN_M σ σ' → σ' 1 9 = r.1 → σ' 1 10 = r.2.1 → K (some (0, 0, 0)) σ') ∧ (r.1 = 0 → ∀ σ' : ab_SG, ab_okM sN_M σ σ' → eD σ' e r.2.2.2 → σ' 65 4 = (r.2.2.1 : Int) → pk σ σ' L → K (some (0, 0, 1)) σ')
theorem sd_n8 {σ : ab_SG} {e : tk_E} {p : Nat} (h : eD σ e p) (k : (tk e p).1 = 3) : σ 1 8 = (tk e p).2.2.2.2 := h.2.1.2.2.2.2.2 k
def rw_P : List (Nat × Nat) := [(66, 64), (67, 64)]
def rw_N3 : List (Nat × Nat) := [(11, 9), (12, 6), (13, 5)]
def sp_puts : fw_SP := sp_of put_k rw_P
def sp_seeks : fw_SP := sp_of seek_k rw_N3
def sp_seAdd : fw_SP := fun as σ K => ∃ k v : Int, as = [(2, 65, 0), (0, 0, k), (0, 0, v)] ∧ ∀ σ' : ab_SG, ab_okM se_M σ σ' → (fw_c k = k → fw_c v = v → pk σ σ' [(k, v)]) → K none σ'
def sp_seKind : fw_SP := fun as σ K => ∃ (e : tk_E) (p : Nat), as = [(2, 1, 0)] ∧ eD σ e p ∧ K (some (0, 0, sk_v e p)) σ
def sp_seClear : fw_SP := fun as σ K => as = [(2, 65, 0)] ∧ K none (ab_ups (ab_ups σ 65 3 0) 65 4 0)
def sp_seNamed : fw_SP := fun as σ K => ∃ (A : ab_SG) (e : tk_E) (p o : Nat) (k : Int), as = [(2, 65, 0), (2, 1, 0), (2, 3, 0), (0, 0, k)] ∧ NC σ A ∧ eD σ e p ∧ σ 65 4 = (o : Int) ∧ ((k = 3 ∧ sl_post σ (sn_nm A e 58 (A 49 12) o p) (sl_nm A e 58 (A 49 12) 3 p) e K) ∨ (k = 4 ∧ sl_post σ (sn_nm A e 59 (A 49 13) o p) (sl_nm A e 59 (A 49 13) 4 p) e K) ∨ (k = 5 ∧ sl_post σ (sn_nm A e 57 (A 49 11) o p) (sl_nm A e 57 (A 49 11) 5 p) e K))
def sp_seMeas : fw_SP := fun as σ K => ∃ (e : tk_E) (p o : Nat) (k : Int), as = [(2, 65, 0), (2, 1, 0), (0, 0, k)] ∧ (0 ≤ k ∧ k ≤ 100) ∧ eD σ e p ∧ σ 65 4 = (o : Int) ∧ sl_post σ (sn_ms e o p) (sl_ms e p k) e K
def sp_seOne (k : Nat) : fw_SP := fun as σ K => ∃ (A : ab_SG) (e : tk_E) (p o : Nat), as = [(2, 65, 0), (2, 1, 0), (2, 3, 0), (0, 0, 9 - (k : Int))] ∧ NC σ A ∧ eD σ e p ∧ (σ 65 4 = (o : Int) ∧ o ≤ 20) ∧ sl_post σ (sn_one A e k o p) (sl_one A e k o p) e K
def sp_seCond (k : Nat) : fw_SP := fun as σ K => ∃ (A : ab_SG) (e : tk_E) (p o : Nat), as = [(2, 65, 0), (2, 1, 0), (2, 3, 0), (0, 0, 9 - (k : Int))] ∧ NC σ A ∧ eD σ e p ∧ (σ 65 4 = (o : Int) ∧ o ≤ 20) ∧ sl_post σ (sn_cd (sn_one A e k) e o p) (sl_cd (sn_one A e k) (sl_one A e k) e o p) e K
def sq_M : ab_ML := (1, 2) :: sN_M
def sp_seRead : fw_SP := fun as σ K => ∃ A : ab_SG, as = [(2, 65, 0), (2, 1, 0), (2, 3, 0)] ∧ (0 ≤ σ 1 1 ∧ σ 1 1 ≤ 940) ∧ NC σ A ∧
  ((sn_r A (tp_t σ, (σ 1 1).toNat, 200)).1 ≠ 0 → ∀ σ' : ab_SG, ab_okM sq_M σ σ' → σ' 1 9 = (sn_r A (tp_t σ, (σ 1 1).toNat, 200)).1 → σ' 1 10 = (sn_r A (tp_t σ, (σ 1 1).toNat, 200)).2.1 → K (some (0, 0, 0)) σ') ∧
  ((sn_r A (tp_t σ, (σ 1 1).toNat, 200)).1 = 0 → ∀ σ' : ab_SG, ab_okM sq_M σ σ' → σ' 1 9 = 0 → σ' 65 4 = ((sn_r A (tp_t σ, (σ 1 1).toNat, 200)).2.2.1 : Int) → pg σ' (sl_r A (tp_t σ, (σ 1 1).toNat, 200)) → K (some (0, 0, 1)) σ')
theorem eD.seek11 {σ A : ab_SG} {e : tk_E} {p : Nat} (h : eD σ e p) {k k9 n : Nat} {x : Int} {K : fw_KR} (hkn : (k, n) ∈ rw_N3) (hx : 0 ≤ x ∧ x ≤ (n : Int)) (hr : ∀ j : Nat, (j : Int) < x → σ k j = A k9 j ∧ fw_d (A k9 j) = A k9 j) (h0 : pr_sk A e k9 x p ≠ 0 → ed_no σ (pr_sk A e k9 x p) (ev_st e p) K (-1)) (h1 : pr_sk A e k9 x p = 0 → K (some (0, 0, pr_ix A e k9 x p)) σ) :
    sp_seeks [(2, 1, 0), (2, k, 0), (0, 0, x)] σ K := by
  have hN := h.name
  have hc : rw_fd (σ k) (pr_wd e p) x.toNat 0 = pr_ix A e k9 x p := rw_cong x.toNat 0 (fun j _ hj => (hr j (by omega)).1)
  refine ⟨(k, n), hkn, x, rfl, hx, fun j hj => by rw [(hr j hj).1]; exact (hr j hj).2, fun q => (h.word (hN.mp q).1).2, fun q => ?_, fun q q2 => ?_, fun q q2 => ?_⟩
  · unfold pr_sk at h0
    rw [if_neg (fun z => q (hN.mpr z))] at h0
    exact h.rf (by decide) (h0 (by decide))
  · have hq := hN.mp q
    rw [(h.word hq.1).1, hc] at q2
    unfold pr_sk at h0
    rw [if_pos hq, if_pos q2] at h0
    exact h.rf (by decide) (h0 (by decide))
  · have hq := hN.mp q
    rw [(h.word hq.1).1, hc] at q2 ⊢
    unfold pr_sk at h1
    rw [if_pos hq, if_neg (show ¬ pr_ix A e k9 x p < 0 by omega)] at h1
    exact h1 rfl
theorem eD.sg {σ : ab_SG} {e : tk_E} {p : Nat} (h : eD σ e p) {x : Int} (hx : 0 ≤ x ∧ x ≤ 100) {K : fw_KR} (h0 : (tk e p).1 ≠ x → ed_no σ 1 (ev_st e p) K 0) (h1 : (tk e p).1 = x → ∀ σ' : ab_SG, ab_okM st_M σ σ' → eD σ' e (tn e p) → K (some (0, 0, 1)) σ') : sp_takeSign [(2, 1, 0), (0, 0, x)] σ K := by
  have cx : fw_c x = x := fw_s (by omega) (by omega)
  refine ⟨x, rfl, ?_, ?_⟩
  · rw [h.kind.2, cx]
    exact fun z => h.rf (by decide) (h0 z)
  · rw [h.kind.2, cx]
    exact fun z => ⟨h.st.1, fun σ' M S => h1 z σ' M (h.st.2 σ' M S)⟩
def sp_cpq : fw_SP := sp_o3 cp_k [(66, 15, 64), (67, 16, 64)]
def sp_seCopy : fw_SP := fun as σ K => as = [(2, 14, 0), (2, 65, 0)] ∧ ∀ σ' : ab_SG, ab_okM [(15, 1000000), (16, 1000000), (14, 3), (14, 4)] σ σ' → (∀ j : Nat, j < 64 → σ' 15 j = fw_c (σ 66 j)) → (∀ j : Nat, j < 64 → σ' 16 j = fw_c (σ 67 j)) → σ' 14 3 = fw_c (σ 65 3) → σ' 14 4 = fw_c (σ 65 4) → K none σ'
def sv_M : ab_ML := (1, 1) :: sq_M
def sz_M : ab_ML := (1, 1) :: (15, 1000000) :: (16, 1000000) :: (14, 3) :: (14, 4) :: sq_M
/-- the sentence as the studio's rows have it -/
def pq (σ : ab_SG) (P : sl_T) (n : Int) : Prop := (σ 14 4 = n ∧ σ 14 3 = (P.length : Int)) ∧ ∀ i : Nat, i < P.length → P[i]? = some (σ 15 i, σ 16 i)
def sp_sentence : fw_SP := fun as σ K => ∃ A : ab_SG, as = [(2, 0, 0)] ∧ (0 ≤ σ 1 1 ∧ σ 1 1 ≤ 940) ∧ NC σ A ∧
  ((sn_r A (tp_t σ, (σ 1 1).toNat, 200)).1 ≠ 0 → ∀ σ' : ab_SG, ab_okM sv_M σ σ' → σ' 1 1 = 0 → σ' 1 9 = (sn_r A (tp_t σ, (σ 1 1).toNat, 200)).1 → K (some (0, 0, v_se A (tp_t σ, (σ 1 1).toNat, 200))) σ') ∧
  ((sn_r A (tp_t σ, (σ 1 1).toNat, 200)).1 = 0 → ∀ σ' : ab_SG, ab_okM sz_M σ σ' → σ' 1 1 = 0 → σ' 1 9 = 0 → pq σ' (sl_r A (tp_t σ, (σ 1 1).toNat, 200)) ((sn_r A (tp_t σ, (σ 1 1).toNat, 200)).2.2.1 : Int) → K (some (0, 0, v_se A (tp_t σ, (σ 1 1).toNat, 200))) σ')
abbrev fk_put66 : List fw_CR := []
abbrev st_put66 : fw_K → fw_KR → fw_K := fw_st vwCl nn_sh nn_kd fw_kv fw_wc (nn_KI1.map (fun x => x.1)) (nn_KJ1.map (fun x => x.1)) (nn_PF1.map (fun x => x.1)) (nn_PS1.map (fun x => x.1)) fk_put66 0 nn_dt27 3 4
theorem fs_put66_0 {G : fw_K} {R : fw_KR} (hG : fw_cls st_put66 R G) {x v : Int} {σ : ab_SG} (h : (fw_c x < 0 → R none σ) ∧ (0 ≤ fw_c x → (fw_c ((64 : Nat) : Int) ≤ fw_c x → R none σ) ∧ (fw_c x < fw_c ((64 : Nat) : Int) → (0 ≤ fw_c x ∧ fw_c x < ((64 : Nat) : Int)) ∧ True ∧ (R none (ab_ups σ 66 (fw_c x).toNat (fw_c v)))))) : G 0 [some (2, 66, 0), some (0, 0, x), some (0, 0, v)] [] σ := fw_on hG [] 200 h
abbrev fk_put67 : List fw_CR := []
abbrev st_put67 : fw_K → fw_KR → fw_K := fw_st vwCl nn_sh nn_kd fw_kv fw_wc (nn_KI1.map (fun x => x.1)) (nn_KJ1.map (fun x => x.1)) (nn_PF1.map (fun x => x.1)) (nn_PS1.map (fun x => x.1)) fk_put67 0 nn_dt27 3 4
theorem fs_put67_0 {G : fw_K} {R : fw_KR} (hG : fw_cls st_put67 R G) {x v : Int} {σ : ab_SG} (h : (fw_c x < 0 → R none σ) ∧ (0 ≤ fw_c x → (fw_c ((64 : Nat) : Int) ≤ fw_c x → R none σ) ∧ (fw_c x < fw_c ((64 : Nat) : Int) → (0 ≤ fw_c x ∧ fw_c x < ((64 : Nat) : Int)) ∧ True ∧ (R none (ab_ups σ 67 (fw_c x).toNat (fw_c v)))))) : G 0 [some (2, 67, 0), some (0, 0, x), some (0, 0, v)] [] σ := fw_on hG [] 200 h
abbrev fk_seek11 : List fw_CR := [(87, 0, true, 8, 0, sp_isName), (91, 1, true, 8, 0, sp_refuse)]
abbrev st_seek11 : fw_K → fw_KR → fw_K := fw_st vwCl nn_sh nn_kd fw_kv fw_wc (nn_KI2.map (fun x => x.1)) (nn_KJ2.map (fun x => x.1)) (nn_PF2.map (fun x => x.1)) (nn_PS2.map (fun x => x.1)) fk_seek11 1 nn_dt33 4 0
theorem fs_seek11_0 {G : fw_K} {R : fw_KR} (hG : fw_cls st_seek11 R G) {x : Int} {σ : ab_SG} (h : sp_isName [(2, 1, 0)] σ (fun rv σ2 => G 4 [some (2, 1, 0), some (2, 11, 0), some (0, 0, x), none] (rv.toList ++ []) σ2)) : G 0 [some (2, 1, 0), some (2, 11, 0), some (0, 0, x), none] [] σ := fw_on hG [4, 12, 17, 47, 52] 200 h
theorem fs_seek11_4 {G : fw_K} {R : fw_KR} (hG : fw_cls st_seek11 R G) {a2 b0 : Int} {σ : ab_SG} (h : (fw_c b0 ≠ 0 → G 17 [some (2, 1, 0), some (2, 11, 0), some (0, 0, a2), some (0, 0, 0)] [] σ) ∧ (fw_c b0 = 0 → sp_refuse [(2, 1, 0), (0, 0, 1)] σ (fun rv σ2 => G 12 [some (2, 1, 0), some (2, 11, 0), some (0, 0, a2), none] (rv.toList ++ []) σ2))) : G 4 [some (2, 1, 0), some (2, 11, 0), some (0, 0, a2), none] [(0, 0, b0)] σ := fw_on hG [4, 12, 17, 47, 52] 200 h
theorem fs_seek11_17 {G : fw_K} {R : fw_KR} (hG : fw_cls st_seek11 R G) {a2 a3 : Int} {σ : ab_SG} (h : (fw_c a2 ≤ fw_c a3 → G 47 [some (2, 1, 0), some (2, 11, 0), some (0, 0, a2), some (0, 0, a3)] [] σ) ∧ (fw_c a3 < fw_c a2 → (fw_c ((9 : Nat) : Int) ≤ fw_c a3 → G 47 [some (2, 1, 0), some (2, 11, 0), some (0, 0, a2), some (0, 0, a3)] [] σ) ∧ (fw_c a3 < fw_c ((9 : Nat) : Int) → (0 ≤ fw_c a3 ∧ fw_c a3 < ((9 : Nat) : Int)) ∧ ((fw_d (σ 11 (fw_c a3).toNat) ≠ fw_d (σ 1 6) → G 17 [some (2, 1, 0), some (2, 11, 0), some (0, 0, a2), some (0, 0, a3 + 1)] [] σ) ∧ (fw_d (σ 11 (fw_c a3).toNat) = fw_d (σ 1 6) → R (some (0, 0, a3)) σ))))) : G 17 [some (2, 1, 0), some (2, 11, 0), some (0, 0, a2), some (0, 0, a3)] [] σ := fw_on hG [4, 12, 17, 47, 52] 200 h
theorem fs_seek11_12 {G : fw_K} {R : fw_KR} (hG : fw_cls st_seek11 R G) {a2 b0 : Int} {σ : ab_SG} (h : R (some (0, 0, (-1))) σ) : G 12 [some (2, 1, 0), some (2, 11, 0), some (0, 0, a2), none] [(0, 0, b0)] σ := fw_on hG [4, 12, 17, 47, 52] 200 h
theorem fs_seek11_47 {G : fw_K} {R : fw_KR} (hG : fw_cls st_seek11 R G) {a2 a3 : Int} {σ : ab_SG} (h : sp_refuse [(2, 1, 0), (0, 0, 3)] σ (fun rv σ2 => G 52 [some (2, 1, 0), some (2, 11, 0), some (0, 0, a2), some (0, 0, a3)] (rv.toList ++ []) σ2)) : G 47 [some (2, 1, 0), some (2, 11, 0), some (0, 0, a2), some (0, 0, a3)] [] σ := fw_on hG [4, 12, 17, 47, 52] 200 h
theorem fs_seek11_52 {G : fw_K} {R : fw_KR} (hG : fw_cls st_seek11 R G) {a2 a3 b0 : Int} {σ : ab_SG} (h : R (some (0, 0, (-1))) σ) : G 52 [some (2, 1, 0), some (2, 11, 0), some (0, 0, a2), some (0, 0, a3)] [(0, 0, b0)] σ := fw_on hG [4, 12, 17, 47, 52] 200 h
abbrev fk_seAdd : List fw_CR := [(141, 3, false, 0, 0, sp_puts)]
abbrev st_seAdd : fw_K → fw_KR → fw_K := fw_st vwCl nn_sh nn_kd fw_kv fw_wc (nn_KI5.map (fun x => x.1)) (nn_KJ5.map (fun x => x.1)) (nn_PF5.map (fun x => x.1)) (nn_PS5.map (fun x => x.1)) fk_seAdd 1 nn_dt177 3 4
theorem fs_seAdd_0 {G : fw_K} {R : fw_KR} (hG : fw_cls st_seAdd R G) {k v : Int} {σ : ab_SG} (h : sp_puts [(2, 66, 0), (0, 0, σ 65 3), (0, 0, k)] σ (fun rv σ2 => G 12 [some (2, 65, 0), some (0, 0, k), some (0, 0, v)] (rv.toList ++ []) σ2)) : G 0 [some (2, 65, 0), some (0, 0, k), some (0, 0, v)] [] σ := fw_on hG [12, 24] 200 h
theorem fs_seAdd_12 {G : fw_K} {R : fw_KR} (hG : fw_cls st_seAdd R G) {a1 a2 : Int} {σ : ab_SG} (h : sp_puts [(2, 67, 0), (0, 0, σ 65 3), (0, 0, a2)] σ (fun rv σ2 => G 24 [some (2, 65, 0), some (0, 0, a1), some (0, 0, a2)] (rv.toList ++ []) σ2)) : G 12 [some (2, 65, 0), some (0, 0, a1), some (0, 0, a2)] [] σ := fw_on hG [12, 24] 200 h
theorem fs_seAdd_24 {G : fw_K} {R : fw_KR} (hG : fw_cls st_seAdd R G) {a1 a2 : Int} {σ : ab_SG} (h : R none (ab_ups σ 65 3 (fw_c ((σ 65 3) + 1)))) : G 24 [some (2, 65, 0), some (0, 0, a1), some (0, 0, a2)] [] σ := fw_on hG [12, 24] 200 h
abbrev fk_seKind : List fw_CR := [(61, 1, true, 8, 0, sp_isWord)]
abbrev st_seKind : fw_K → fw_KR → fw_K := fw_st vwCl nn_sh nn_kd fw_kv fw_wc (nn_KI5.map (fun x => x.1)) (nn_KJ5.map (fun x => x.1)) (nn_PF5.map (fun x => x.1)) (nn_PS5.map (fun x => x.1)) fk_seKind 1 nn_dt176 1 0
theorem fs_seKind_0 {G : fw_K} {R : fw_KR} (hG : fw_cls st_seKind R G) {σ : ab_SG} (h : sp_isWord [(2, 1, 0), (4, 0, 9)] σ (fun rv σ2 => G 7 [some (2, 1, 0)] (rv.toList ++ []) σ2)) : G 0 [some (2, 1, 0)] [] σ := fw_on hG [7, 19, 31, 43, 55, 68, 81, 94] 200 h
theorem fs_seKind_7 {G : fw_K} {R : fw_KR} (hG : fw_cls st_seKind R G) {b0 : Int} {σ : ab_SG} (h : (fw_c b0 = 0 → sp_isWord [(2, 1, 0), (4, 0, 10)] σ (fun rv σ2 => G 19 [some (2, 1, 0)] (rv.toList ++ []) σ2)) ∧ (fw_c b0 ≠ 0 → R (some (0, 0, 0)) σ)) : G 7 [some (2, 1, 0)] [(0, 0, b0)] σ := fw_on hG [7, 19, 31, 43, 55, 68, 81, 94] 200 h
theorem fs_seKind_19 {G : fw_K} {R : fw_KR} (hG : fw_cls st_seKind R G) {b0 : Int} {σ : ab_SG} (h : (fw_c b0 = 0 → sp_isWord [(2, 1, 0), (4, 0, 11)] σ (fun rv σ2 => G 31 [some (2, 1, 0)] (rv.toList ++ []) σ2)) ∧ (fw_c b0 ≠ 0 → R (some (0, 0, 3)) σ)) : G 19 [some (2, 1, 0)] [(0, 0, b0)] σ := fw_on hG [7, 19, 31, 43, 55, 68, 81, 94] 200 h
theorem fs_seKind_31 {G : fw_K} {R : fw_KR} (hG : fw_cls st_seKind R G) {b0 : Int} {σ : ab_SG} (h : (fw_c b0 = 0 → sp_isWord [(2, 1, 0), (4, 0, 12)] σ (fun rv σ2 => G 43 [some (2, 1, 0)] (rv.toList ++ []) σ2)) ∧ (fw_c b0 ≠ 0 → R (some (0, 0, 4)) σ)) : G 31 [some (2, 1, 0)] [(0, 0, b0)] σ := fw_on hG [7, 19, 31, 43, 55, 68, 81, 94] 200 h
theorem fs_seKind_43 {G : fw_K} {R : fw_KR} (hG : fw_cls st_seKind R G) {b0 : Int} {σ : ab_SG} (h : (fw_c b0 = 0 → sp_isWord [(2, 1, 0), (4, 0, 13)] σ (fun rv σ2 => G 55 [some (2, 1, 0)] (rv.toList ++ []) σ2)) ∧ (fw_c b0 ≠ 0 → R (some (0, 0, 5)) σ)) : G 43 [some (2, 1, 0)] [(0, 0, b0)] σ := fw_on hG [7, 19, 31, 43, 55, 68, 81, 94] 200 h
theorem fs_seKind_55 {G : fw_K} {R : fw_KR} (hG : fw_cls st_seKind R G) {b0 : Int} {σ : ab_SG} (h : (fw_c b0 = 0 → sp_isWord [(2, 1, 0), (4, 0, 14)] σ (fun rv σ2 => G 68 [some (2, 1, 0)] (rv.toList ++ []) σ2)) ∧ (fw_c b0 ≠ 0 → R (some (0, 0, 6)) σ)) : G 55 [some (2, 1, 0)] [(0, 0, b0)] σ := fw_on hG [7, 19, 31, 43, 55, 68, 81, 94] 200 h
theorem fs_seKind_68 {G : fw_K} {R : fw_KR} (hG : fw_cls st_seKind R G) {b0 : Int} {σ : ab_SG} (h : (fw_c b0 = 0 → sp_isWord [(2, 1, 0), (4, 0, 15)] σ (fun rv σ2 => G 81 [some (2, 1, 0)] (rv.toList ++ []) σ2)) ∧ (fw_c b0 ≠ 0 → R (some (0, 0, 9)) σ)) : G 68 [some (2, 1, 0)] [(0, 0, b0)] σ := fw_on hG [7, 19, 31, 43, 55, 68, 81, 94] 200 h
theorem fs_seKind_81 {G : fw_K} {R : fw_KR} (hG : fw_cls st_seKind R G) {b0 : Int} {σ : ab_SG} (h : (fw_c b0 = 0 → sp_isWord [(2, 1, 0), (4, 0, 16)] σ (fun rv σ2 => G 94 [some (2, 1, 0)] (rv.toList ++ []) σ2)) ∧ (fw_c b0 ≠ 0 → R (some (0, 0, 12)) σ)) : G 81 [some (2, 1, 0)] [(0, 0, b0)] σ := fw_on hG [7, 19, 31, 43, 55, 68, 81, 94] 200 h
theorem fs_seKind_94 {G : fw_K} {R : fw_KR} (hG : fw_cls st_seKind R G) {b0 : Int} {σ : ab_SG} (h : (fw_c b0 = 0 → R (some (0, 0, (-1))) σ) ∧ (fw_c b0 ≠ 0 → R (some (0, 0, 15)) σ)) : G 94 [some (2, 1, 0)] [(0, 0, b0)] σ := fw_on hG [7, 19, 31, 43, 55, 68, 81, 94] 200 h
abbrev fk_seClear : List fw_CR := []
abbrev st_seClear : fw_K → fw_KR → fw_K := fw_st vwCl nn_sh nn_kd fw_kv fw_wc (nn_KI5.map (fun x => x.1)) (nn_KJ5.map (fun x => x.1)) (nn_PF5.map (fun x => x.1)) (nn_PS5.map (fun x => x.1)) fk_seClear 0 nn_dt8 1 4
theorem fs_seClear_0 {G : fw_K} {R : fw_KR} (hG : fw_cls st_seClear R G) {σ : ab_SG} (h : R none (ab_ups (ab_ups σ 65 3 (fw_c 0)) 65 4 (fw_c 0))) : G 0 [some (2, 65, 0)] [] σ := fw_on hG [] 200 h
abbrev fk_seNamed : List fw_CR := [(68, 2, true, 5, 1, sp_seAdd), (72, 0, true, 8, 2, sp_step), (98, 2, true, 8, 1, sp_seeks)]
abbrev st_seNamed : fw_K → fw_KR → fw_K := fw_st vwCl nn_sh nn_kd fw_kv fw_wc (nn_KI5.map (fun x => x.1)) (nn_KJ5.map (fun x => x.1)) (nn_PF5.map (fun x => x.1)) (nn_PS5.map (fun x => x.1)) fk_seNamed 3 nn_dt178 5 1
theorem fs_seNamed_0 {G : fw_K} {R : fw_KR} (hG : fw_cls st_seNamed R G) {k : Int} {σ : ab_SG} (h : (fw_c k ≠ fw_c 3 → (fw_c k ≠ fw_c 4 → sp_seeks [(2, 1, 0), (2, 11, 0), (0, 0, σ 3 11)] σ (fun rv σ2 => G 56 [some (2, 65, 0), some (2, 1, 0), some (2, 3, 0), some (0, 0, k), none] (rv.toList ++ []) σ2)) ∧ (fw_c k = fw_c 4 → sp_seeks [(2, 1, 0), (2, 13, 0), (0, 0, σ 3 13)] σ (fun rv σ2 => G 39 [some (2, 65, 0), some (2, 1, 0), some (2, 3, 0), some (0, 0, k), none] (rv.toList ++ []) σ2))) ∧ (fw_c k = fw_c 3 → sp_seeks [(2, 1, 0), (2, 12, 0), (0, 0, σ 3 12)] σ (fun rv σ2 => G 17 [some (2, 65, 0), some (2, 1, 0), some (2, 3, 0), some (0, 0, k), none] (rv.toList ++ []) σ2))) : G 0 [some (2, 65, 0), some (2, 1, 0), some (2, 3, 0), some (0, 0, k), none] [] σ := fw_on hG [17, 39, 56, 58, 73, 77] 200 h
theorem fs_seNamed_56 {G : fw_K} {R : fw_KR} (hG : fw_cls st_seNamed R G) {a3 b0 : Int} {o2 o4 : Option ab_AV} {σ : ab_SG} (h : G 58 [some (2, 65, 0), some (2, 1, 0), o2, some (0, 0, a3), some (0, 0, b0)] [] σ) : G 56 [some (2, 65, 0), some (2, 1, 0), o2, some (0, 0, a3), o4] [(0, 0, b0)] σ := fw_on hG [17, 39, 56, 58, 73, 77] 200 h
theorem fs_seNamed_39 {G : fw_K} {R : fw_KR} (hG : fw_cls st_seNamed R G) {a3 b0 : Int} {o2 o4 : Option ab_AV} {σ : ab_SG} (h : G 58 [some (2, 65, 0), some (2, 1, 0), o2, some (0, 0, a3), some (0, 0, b0)] [] σ) : G 39 [some (2, 65, 0), some (2, 1, 0), o2, some (0, 0, a3), o4] [(0, 0, b0)] σ := fw_on hG [17, 39, 56, 58, 73, 77] 200 h
theorem fs_seNamed_17 {G : fw_K} {R : fw_KR} (hG : fw_cls st_seNamed R G) {a3 b0 : Int} {o2 o4 : Option ab_AV} {σ : ab_SG} (h : G 58 [some (2, 65, 0), some (2, 1, 0), o2, some (0, 0, a3), some (0, 0, b0)] [] σ) : G 17 [some (2, 65, 0), some (2, 1, 0), o2, some (0, 0, a3), o4] [(0, 0, b0)] σ := fw_on hG [17, 39, 56, 58, 73, 77] 200 h
theorem fs_seNamed_58 {G : fw_K} {R : fw_KR} (hG : fw_cls st_seNamed R G) {a3 a4 : Int} {o2 : Option ab_AV} {σ : ab_SG} (h : (fw_c a4 ≠ fw_c (-1) → sp_seAdd [(2, 65, 0), (0, 0, a3), (0, 0, a4)] σ (fun rv σ2 => G 73 [some (2, 65, 0), some (2, 1, 0), o2, some (0, 0, a3), some (0, 0, a4)] (rv.toList ++ []) σ2)) ∧ (fw_c a4 = fw_c (-1) → (0 ≤ fw_c 0 ∧ fw_c 0 ≤ 1) ∧ R (some (0, 0, 0)) σ)) : G 58 [some (2, 65, 0), some (2, 1, 0), o2, some (0, 0, a3), some (0, 0, a4)] [] σ := fw_on hG [17, 39, 56, 58, 73, 77] 200 h
theorem fs_seNamed_73 {G : fw_K} {R : fw_KR} (hG : fw_cls st_seNamed R G) {o2 o3 o4 : Option ab_AV} {σ : ab_SG} (h : sp_step [(2, 1, 0)] σ (fun rv σ2 => G 77 [some (2, 65, 0), some (2, 1, 0), o2, o3, o4] (rv.toList ++ []) σ2)) : G 73 [some (2, 65, 0), some (2, 1, 0), o2, o3, o4] [] σ := fw_on hG [17, 39, 56, 58, 73, 77] 200 h
theorem fs_seNamed_77 {G : fw_K} {R : fw_KR} (hG : fw_cls st_seNamed R G) {o1 o2 o3 o4 : Option ab_AV} {σ : ab_SG} (h : (0 ≤ fw_c 1 ∧ fw_c 1 ≤ 1) ∧ R (some (0, 0, 1)) σ) : G 77 [some (2, 65, 0), o1, o2, o3, o4] [] σ := fw_on hG [17, 39, 56, 58, 73, 77] 200 h
abbrev fk_seMeas : List fw_CR := [(48, 1, true, 8, 0, sp_refuse), (68, 2, true, 5, 1, sp_seAdd), (72, 0, true, 8, 2, sp_step)]
abbrev st_seMeas : fw_K → fw_KR → fw_K := fw_st vwCl nn_sh nn_kd fw_kv fw_wc (nn_KI5.map (fun x => x.1)) (nn_KJ5.map (fun x => x.1)) (nn_PF5.map (fun x => x.1)) (nn_PS5.map (fun x => x.1)) fk_seMeas 3 nn_dt179 4 1
theorem fs_seMeas_0 {G : fw_K} {R : fw_KR} (hG : fw_cls st_seMeas R G) {k : Int} {σ : ab_SG} (h : (fw_c ((σ 1 5) - 60) < 0 → G 17 [some (2, 65, 0), some (2, 1, 0), some (0, 0, k), some (0, 0, (σ 1 5) - 60)] [] σ) ∧ (0 ≤ fw_c ((σ 1 5) - 60) → (fw_c ((σ 1 5) - 60) ≤ fw_c 2 → sp_step [(2, 1, 0)] σ (fun rv σ2 => G 27 [some (2, 65, 0), some (2, 1, 0), some (0, 0, k), some (0, 0, (σ 1 5) - 60)] (rv.toList ++ []) σ2)) ∧ (fw_c 2 < fw_c ((σ 1 5) - 60) → G 17 [some (2, 65, 0), some (2, 1, 0), some (0, 0, k), some (0, 0, (σ 1 5) - 60)] [] σ))) : G 0 [some (2, 65, 0), some (2, 1, 0), some (0, 0, k), none] [] σ := fw_on hG [17, 22, 27, 40, 52, 56] 200 h
theorem fs_seMeas_17 {G : fw_K} {R : fw_KR} (hG : fw_cls st_seMeas R G) {o2 o3 : Option ab_AV} {σ : ab_SG} (h : sp_refuse [(2, 1, 0), (0, 0, 1)] σ (fun rv σ2 => G 22 [some (2, 65, 0), some (2, 1, 0), o2, o3] (rv.toList ++ []) σ2)) : G 17 [some (2, 65, 0), some (2, 1, 0), o2, o3] [] σ := fw_on hG [17, 22, 27, 40, 52, 56] 200 h
theorem fs_seMeas_27 {G : fw_K} {R : fw_KR} (hG : fw_cls st_seMeas R G) {a2 a3 : Int} {σ : ab_SG} (h : (fw_c (σ 1 5) = fw_c 3 → sp_seAdd [(2, 65, 0), (0, 0, a2 + a3), (0, 0, σ 1 8)] σ (fun rv σ2 => G 52 [some (2, 65, 0), some (2, 1, 0), some (0, 0, a2), some (0, 0, a3)] (rv.toList ++ []) σ2)) ∧ (fw_c (σ 1 5) ≠ fw_c 3 → sp_refuse [(2, 1, 0), (0, 0, 1)] σ (fun rv σ2 => G 40 [some (2, 65, 0), some (2, 1, 0), some (0, 0, a2), some (0, 0, a3)] (rv.toList ++ []) σ2))) : G 27 [some (2, 65, 0), some (2, 1, 0), some (0, 0, a2), some (0, 0, a3)] [] σ := fw_on hG [17, 22, 27, 40, 52, 56] 200 h
theorem fs_seMeas_22 {G : fw_K} {R : fw_KR} (hG : fw_cls st_seMeas R G) {b0 : Int} {o1 o2 o3 : Option ab_AV} {σ : ab_SG} (h : (0 ≤ fw_c b0 ∧ fw_c b0 ≤ 1) ∧ R (some (0, 0, b0)) σ) : G 22 [some (2, 65, 0), o1, o2, o3] [(0, 0, b0)] σ := fw_on hG [17, 22, 27, 40, 52, 56] 200 h
theorem fs_seMeas_52 {G : fw_K} {R : fw_KR} (hG : fw_cls st_seMeas R G) {o2 o3 : Option ab_AV} {σ : ab_SG} (h : sp_step [(2, 1, 0)] σ (fun rv σ2 => G 56 [some (2, 65, 0), some (2, 1, 0), o2, o3] (rv.toList ++ []) σ2)) : G 52 [some (2, 65, 0), some (2, 1, 0), o2, o3] [] σ := fw_on hG [17, 22, 27, 40, 52, 56] 200 h
theorem fs_seMeas_40 {G : fw_K} {R : fw_KR} (hG : fw_cls st_seMeas R G) {b0 : Int} {o1 o2 o3 : Option ab_AV} {σ : ab_SG} (h : (0 ≤ fw_c b0 ∧ fw_c b0 ≤ 1) ∧ R (some (0, 0, b0)) σ) : G 40 [some (2, 65, 0), o1, o2, o3] [(0, 0, b0)] σ := fw_on hG [17, 22, 27, 40, 52, 56] 200 h
theorem fs_seMeas_56 {G : fw_K} {R : fw_KR} (hG : fw_cls st_seMeas R G) {o1 o2 o3 : Option ab_AV} {σ : ab_SG} (h : (0 ≤ fw_c 1 ∧ fw_c 1 ≤ 1) ∧ R (some (0, 0, 1)) σ) : G 56 [some (2, 65, 0), o1, o2, o3] [] σ := fw_on hG [17, 22, 27, 40, 52, 56] 200 h
section
variable {l : Launch} {cy : Nat → ClassId} {ad wr cr : Nat → Nat} {D : va_G}
theorem fm_put66 (hinj : nn_inj ad) : fw_H l cy ad wr cr D 27 0 (put_k 66 64) := fw_mk hinj (⟨"NameNotes", "put", "([III)V"⟩, prog_1_method_86_code, 3, (Option.none : Option Jvm.ClassFile.FieldType), 3, false, 4) rfl rfl nn_KI1_ok nn_KJ1_ok nn_PF1_ok nn_PS1_ok (by decide +kernel) rfl rfl (fun _ h => absurd h List.not_mem_nil) (fun as σ K h => by
  obtain ⟨x, v, rfl, h1, h2⟩ := h
  exact ⟨rfl, fun G hG => put_gen (k := 66) (n := 64) (K := K) (σ := σ) (x := x) (c := fw_c v) (by decide) (fs_put66_0 hG) h1 h2⟩)
theorem fm_put67 (hinj : nn_inj ad) : fw_H l cy ad wr cr D 27 0 (put_k 67 64) := fw_mk hinj (⟨"NameNotes", "put", "([III)V"⟩, prog_1_method_86_code, 3, (Option.none : Option Jvm.ClassFile.FieldType), 3, false, 4) rfl rfl nn_KI1_ok nn_KJ1_ok nn_PF1_ok nn_PS1_ok (by decide +kernel) rfl rfl (fun _ h => absurd h List.not_mem_nil) (fun as σ K h => by
  obtain ⟨x, v, rfl, h1, h2⟩ := h
  exact ⟨rfl, fun G hG => put_gen (k := 67) (n := 64) (K := K) (σ := σ) (x := x) (c := fw_c v) (by decide) (fs_put67_0 hG) h1 h2⟩)
theorem fm_seek11 (hinj : nn_inj ad) : fw_H l cy ad wr cr D 33 1 (seek_k 11 9) := fw_mk hinj (⟨"NameNotes$Tape", "seek", "([JI)I"⟩, prog_10_method_11_code, 4, (Option.some Jvm.ClassFile.FieldType.int), 2, true, 0) rfl rfl nn_KI2_ok nn_KJ2_ok nn_PF2_ok nn_PS2_ok (by decide +kernel) rfl rfl (List.forall_mem_cons.mpr ⟨fw_row nn_PM2_ok (x := 87) (k := 0) (mn := 24) (np := 0) (ob := true) (ci := 8) (⟨"NameNotes$Tape", "isName", "()Z"⟩, prog_10_method_9_code, 1, (Option.some Jvm.ClassFile.FieldType.boolean), 0, true, 1) rfl (by decide +kernel) rfl rfl (by decide) (fun _ => ⟨_, _, rfl⟩) (fm_isName hinj), (List.forall_mem_cons.mpr ⟨fw_row nn_PM2_ok (x := 91) (k := 0) (mn := 22) (np := 1) (ob := true) (ci := 8) (⟨"NameNotes$Tape", "refuse", "(I)Z"⟩, prog_10_method_14_code, 2, (Option.some Jvm.ClassFile.FieldType.boolean), 1, true, 1) rfl (by decide +kernel) rfl rfl (by decide) (fun _ => ⟨_, _, rfl⟩) (fm_refuse hinj), (fun _ h => absurd h List.not_mem_nil)⟩)⟩) (fun as σ K h => by
  obtain ⟨x, rfl, hx, hd, hw, h1, h2, h3⟩ := h
  refine ⟨rfl, fun G hG => fs_seek11_0 hG ⟨rfl, ?_⟩⟩
  refine fs_seek11_4 hG ⟨fun z => ?_, fun z => ⟨_, rfl, fs_seek11_12 hG (h1 (fw_bo_eq z))⟩⟩
  have hn := fw_bo_ne z
  exact seek_gen (k := 11) (n := 9) (K := K) (σ := σ) (x := x) (G2 := fun i => G 17 [some (2, 1, 0), some (2, 11, 0), some (0, 0, x), some (0, 0, i)] [] σ) (G4 := fun i => G 47 [some (2, 1, 0), some (2, 11, 0), some (0, 0, x), some (0, 0, i)] [] σ) (by decide) (fun a3 q => fs_seek11_17 hG q) hx hd (hw hn) (fun q i => fs_seek11_47 hG ⟨_, rfl, fs_seek11_52 hG (h2 hn q)⟩) (h3 hn))
theorem fm_puts (hinj : nn_inj ad) : fw_H l cy ad wr cr D 27 0 sp_puts := fw_H_of (List.forall_mem_cons.mpr ⟨fm_put66 hinj, (List.forall_mem_cons.mpr ⟨fm_put67 hinj, (fun _ h => absurd h List.not_mem_nil)⟩)⟩)
theorem fm_seeks (hinj : nn_inj ad) : fw_H l cy ad wr cr D 33 1 sp_seeks := fw_H_of (List.forall_mem_cons.mpr ⟨fm_seek11 hinj, (List.forall_mem_cons.mpr ⟨fm_seek12 hinj, (List.forall_mem_cons.mpr ⟨fm_seek13 hinj, (fun _ h => absurd h List.not_mem_nil)⟩)⟩)⟩)
theorem fm_seAdd (hinj : nn_inj ad) : fw_H l cy ad wr cr D 177 1 sp_seAdd := fw_mk hinj (⟨"NameNotes$Sentence", "addStep", "(II)V"⟩, prog_7_method_10_code, 3, (Option.none : Option Jvm.ClassFile.FieldType), 2, true, 4) rfl rfl nn_KI5_ok nn_KJ5_ok nn_PF5_ok nn_PS5_ok (by decide +kernel) rfl rfl (List.forall_mem_cons.mpr ⟨fw_row nn_PM5_ok (x := 141) (k := 2) (mn := 27) (np := 3) (ob := false) (ci := 0) (⟨"NameNotes", "put", "([III)V"⟩, prog_1_method_86_code, 3, (Option.none : Option Jvm.ClassFile.FieldType), 3, false, 4) rfl (by decide +kernel) rfl rfl (by decide) (fun q => by cases q) (fm_puts hinj), (fun _ h => absurd h List.not_mem_nil)⟩) (fun as σ K h => by
  obtain ⟨k, v, rfl, h⟩ := h
  refine ⟨rfl, fun G hG => fs_seAdd_0 hG ?_⟩
  by_cases r : 0 ≤ fw_c (σ 65 3) ∧ fw_c (σ 65 3) < ((64 : Nat) : Int)
  · have e3 : (ab_ups σ 66 (fw_c (σ 65 3)).toNat (fw_c k)) 65 3 = σ 65 3 := ab_ups_ne (fun z => absurd z.1 (by decide))
    refine ⟨(66, 64), by decide, _, _, rfl, fun _ => fs_seAdd_12 hG ?_, fun z => absurd r z⟩
    rw [e3]
    refine ⟨(67, 64), by decide, _, _, rfl, fun _ => fs_seAdd_24 hG ?_, fun z => absurd r z⟩
    have e4 : (ab_ups (ab_ups σ 66 (fw_c (σ 65 3)).toNat (fw_c k)) 67 (fw_c (σ 65 3)).toNat (fw_c v)) 65 3 = σ 65 3 := (ab_ups_ne (fun z => absurd z.1 (by decide))).trans e3
    rw [e4]
    refine h _ (fw_okM_ups (fw_okM_upa (fw_okM_upa (fw_okM_refl _ _) (by decide)) (by decide)) (by decide)) (fun hk hv P hP hn => ?_)
    have h3 := hP.1
    rw [List.length_singleton] at hn
    have c3 : fw_c (σ 65 3) = (P.length : Int) := by rw [h3]; exact fw_s (by omega) (by omega)
    have c4 : fw_c (σ 65 3 + 1) = (P.length : Int) + 1 := by rw [h3]; exact fw_s (by omega) (by omega)
    rw [c3, c4, Int.toNat_natCast]
    refine pg_n hP ab_ups_eq (fun i hi => ⟨?_, ?_⟩) ⟨?_, ?_⟩
    · rw [ab_ups_ne (fun z => absurd z.1 (by decide)), ab_ups_ne (fun z => absurd z.1 (by decide)), ab_ups_ne (fun z => by have := z.2; omega)]
    · rw [ab_ups_ne (fun z => absurd z.1 (by decide)), ab_ups_ne (fun z => by have := z.2; omega), ab_ups_ne (fun z => absurd z.1 (by decide))]
    · rw [ab_ups_ne (fun z => absurd z.1 (by decide)), ab_ups_ne (fun z => absurd z.1 (by decide)), ab_ups_eq]
      exact hk
    · rw [ab_ups_ne (fun z => absurd z.1 (by decide)), ab_ups_eq]
      exact hv
  · have no : ∀ τ : ab_SG, ab_okM se_M σ τ → (fw_c k = k → fw_c v = v → pk σ τ [(k, v)]) := fun τ _ _ _ P hP hn => absurd (show 0 ≤ fw_c (σ 65 3) ∧ fw_c (σ 65 3) < ((64 : Nat) : Int) by
      rw [List.length_singleton] at hn
      have c3 : fw_c (σ 65 3) = (P.length : Int) := by rw [hP.1]; exact fw_s (by omega) (by omega)
      rw [c3]
      exact ⟨by omega, by omega⟩) r
    refine ⟨(66, 64), by decide, _, _, rfl, fun z => absurd z r, fun _ => fs_seAdd_12 hG ⟨(67, 64), by decide, _, _, rfl, fun z => absurd z r, fun _ => fs_seAdd_24 hG ?_⟩⟩
    have M := fw_okM_ups (x := fw_c (σ 65 3 + 1)) (fw_okM_refl se_M σ) (show se_M.any (fun q => q.1.beq 65 && q.2.beq 3) = true by decide)
    exact h _ M (no _ M))
theorem fm_seKind (hinj : nn_inj ad) : fw_H l cy ad wr cr D 176 1 sp_seKind := fw_mk hinj (⟨"NameNotes$Sentence", "kindOf", "(LNameNotes$Tape;)I"⟩, prog_7_method_9_code, 1, (Option.some Jvm.ClassFile.FieldType.int), 1, false, 0) rfl rfl nn_KI5_ok nn_KJ5_ok nn_PF5_ok nn_PS5_ok (by decide +kernel) rfl rfl (List.forall_mem_cons.mpr ⟨fw_row nn_PM5_ok (x := 61) (k := 0) (mn := 20) (np := 1) (ob := true) (ci := 8) (⟨"NameNotes$Tape", "isWord", "(LNameNotes$Word;)Z"⟩, prog_10_method_10_code, 2, (Option.some Jvm.ClassFile.FieldType.boolean), 1, true, 1) rfl (by decide +kernel) rfl rfl (by decide) (fun _ => ⟨_, _, rfl⟩) (fm_isWord hinj), (fun _ h => absurd h List.not_mem_nil)⟩) (fun as σ K h => by
  obtain ⟨e, p, rfl, E, h⟩ := h
  have kw := E.kw
  have iw : ∀ (x : Int) (Q : fw_KR), 0 ≤ x → x ≤ 16 → (tw e p = x → Q (some (0, 0, 1)) σ) → (tw e p ≠ x → Q (some (0, 0, 0)) σ) → sp_isWord [(2, 1, 0), (4, 0, x)] σ Q := by
    intro x Q h1 h2 a b
    refine ⟨x, rfl, ⟨kw.2.1, kw.2.2, by omega, h2⟩, ?_⟩
    by_cases c : tw e p = x
    · rw [fw_bo_t ((E.isw h1).mpr c)]
      exact a c
    · rw [fw_bo_f (fun z => c ((E.isw h1).mp z))]
      exact b c
  have u0 : ∀ {X : Prop}, fw_c 0 ≠ 0 → X := fun z => absurd fw_c0 z
  have u1 : ∀ {X : Prop}, fw_c 1 = 0 → X := fun z => absurd (fw_c1.symm.trans z) (by decide)
  unfold sk_v at h
  refine ⟨rfl, fun G hG => fs_seKind_0 hG (iw 9 _ (by decide) (by decide) (fun c => fs_seKind_7 hG ⟨u1, fun _ => ?_⟩) (fun c9 => fs_seKind_7 hG ⟨fun _ => ?_, u0⟩))⟩
  · rw [if_pos c] at h
    exact h
  rw [if_neg c9] at h
  refine iw 10 _ (by decide) (by decide) (fun c => fs_seKind_19 hG ⟨u1, fun _ => ?_⟩) (fun c10 => fs_seKind_19 hG ⟨fun _ => ?_, u0⟩)
  · rw [if_pos c] at h
    exact h
  rw [if_neg c10] at h
  refine iw 11 _ (by decide) (by decide) (fun c => fs_seKind_31 hG ⟨u1, fun _ => ?_⟩) (fun c11 => fs_seKind_31 hG ⟨fun _ => ?_, u0⟩)
  · rw [if_pos c] at h
    exact h
  rw [if_neg c11] at h
  refine iw 12 _ (by decide) (by decide) (fun c => fs_seKind_43 hG ⟨u1, fun _ => ?_⟩) (fun c12 => fs_seKind_43 hG ⟨fun _ => ?_, u0⟩)
  · rw [if_pos c] at h
    exact h
  rw [if_neg c12] at h
  refine iw 13 _ (by decide) (by decide) (fun c => fs_seKind_55 hG ⟨u1, fun _ => ?_⟩) (fun c13 => fs_seKind_55 hG ⟨fun _ => ?_, u0⟩)
  · rw [if_pos c] at h
    exact h
  rw [if_neg c13] at h
  refine iw 14 _ (by decide) (by decide) (fun c => fs_seKind_68 hG ⟨u1, fun _ => ?_⟩) (fun c14 => fs_seKind_68 hG ⟨fun _ => ?_, u0⟩)
  · rw [if_pos c] at h
    exact h
  rw [if_neg c14] at h
  refine iw 15 _ (by decide) (by decide) (fun c => fs_seKind_81 hG ⟨u1, fun _ => ?_⟩) (fun c15 => fs_seKind_81 hG ⟨fun _ => ?_, u0⟩)
  · rw [if_pos c] at h
    exact h
  rw [if_neg c15] at h
  refine iw 16 _ (by decide) (by decide) (fun c => fs_seKind_94 hG ⟨u1, fun _ => ?_⟩) (fun c16 => fs_seKind_94 hG ⟨fun _ => ?_, u0⟩)
  · rw [if_pos c] at h
    exact h
  rw [if_neg c16] at h
  exact h)
theorem fm_seClear (hinj : nn_inj ad) : fw_H l cy ad wr cr D 8 0 sp_seClear := fw_mk hinj (⟨"NameNotes$Sentence", "clear", "()V"⟩, prog_7_method_2_code, 1, (Option.none : Option Jvm.ClassFile.FieldType), 0, true, 4) rfl rfl nn_KI5_ok nn_KJ5_ok nn_PF5_ok nn_PS5_ok (by decide +kernel) rfl rfl (fun _ h => absurd h List.not_mem_nil) (fun as σ K h => by
  obtain ⟨rfl, h⟩ := h
  refine ⟨rfl, fun G hG => fs_seClear_0 hG ?_⟩
  rw [fw_c0]
  exact h)
theorem fm_seNamed (hinj : nn_inj ad) : fw_H l cy ad wr cr D 178 3 sp_seNamed := fw_mk hinj (⟨"NameNotes$Sentence", "readNamed", "(LNameNotes$Tape;LNameNotes$Studio;I)Z"⟩, prog_7_method_7_code, 5, (Option.some Jvm.ClassFile.FieldType.boolean), 3, true, 1) rfl rfl nn_KI5_ok nn_KJ5_ok nn_PF5_ok nn_PS5_ok (by decide +kernel) rfl rfl (List.forall_mem_cons.mpr ⟨fw_row nn_PM5_ok (x := 68) (k := 0) (mn := 177) (np := 2) (ob := true) (ci := 5) (⟨"NameNotes$Sentence", "addStep", "(II)V"⟩, prog_7_method_10_code, 3, (Option.none : Option Jvm.ClassFile.FieldType), 2, true, 4) rfl (by decide +kernel) rfl rfl (by decide) (fun _ => ⟨_, _, rfl⟩) (fm_seAdd hinj), (List.forall_mem_cons.mpr ⟨fw_row nn_PM5_ok (x := 72) (k := 0) (mn := 10) (np := 0) (ob := true) (ci := 8) (⟨"NameNotes$Tape", "step", "()V"⟩, prog_10_method_5_code, 2, (Option.none : Option Jvm.ClassFile.FieldType), 0, true, 4) rfl (by decide +kernel) rfl rfl (by decide) (fun _ => ⟨_, _, rfl⟩) (fm_step hinj), (List.forall_mem_cons.mpr ⟨fw_row nn_PM5_ok (x := 98) (k := 0) (mn := 33) (np := 2) (ob := true) (ci := 8) (⟨"NameNotes$Tape", "seek", "([JI)I"⟩, prog_10_method_11_code, 4, (Option.some Jvm.ClassFile.FieldType.int), 2, true, 0) rfl (by decide +kernel) rfl rfl (by decide) (fun _ => ⟨_, _, rfl⟩) (fm_seeks hinj), (fun _ h => absurd h List.not_mem_nil)⟩)⟩)⟩) (fun as σ K h => by
  obtain ⟨A, e, p, o, k, rfl, hN, E, h4, h⟩ := h
  have hi := hN.1
  have m1 : fw_c (-1) = -1 := fw_s (by decide) (by decide)
  have c3 : fw_c 3 = 3 := fw_s (by decide) (by decide)
  have c4 : fw_c 4 = 4 := fw_s (by decide) (by decide)
  have c5 : fw_c 5 = 5 := fw_s (by decide) (by decide)
  refine ⟨rfl, fun G hG => ?_⟩
  have fin : ∀ (k9 : Nat) (n : Int), (0 ≤ n ∧ n ≤ 9) → (0 ≤ k ∧ k ≤ 9) → sl_post σ (sn_nm A e k9 n o p) (sl_nm A e k9 n k p) e K → (pr_sk A e k9 n p ≠ 0 → ed_no σ (pr_sk A e k9 n p) (ev_st e p) (fun rv σ2 => G 58 [some (2, 65, 0), some (2, 1, 0), some (2, 3, 0), some (0, 0, k), some (rv.getD (0, 0, 0))] [] σ2) (-1)) ∧ (pr_sk A e k9 n p = 0 → G 58 [some (2, 65, 0), some (2, 1, 0), some (2, 3, 0), some (0, 0, k), some (0, 0, pr_ix A e k9 n p)] [] σ) := by
    intro k9 n hn hk hp
    refine ⟨fun q σ' a b c => fs_seNamed_58 hG ⟨fun z => absurd rfl z, fun _ => ⟨fw_01, ?_⟩⟩, fun q => ?_⟩
    · have en : sn_nm A e k9 n o p = (pr_sk A e k9 n p, ev_st e p, o, p) := if_pos q
      rw [en] at hp
      exact hp.1 q σ' (ev_up a (by decide)) b c
    · have en : sn_nm A e k9 n o p = (0, 0, o, tn e p) := if_neg (fun z => z q)
      rw [en] at hp
      have x := pr_sk_0 q
      have cx : fw_c (pr_ix A e k9 n p) = pr_ix A e k9 n p := fw_s (by omega) (by omega)
      refine fs_seNamed_58 hG ⟨fun _ => ⟨_, _, rfl, fun σ1 M1 P1 => fs_seNamed_73 hG ?_⟩, fun z => absurd z (by rw [cx, m1]; omega)⟩
      have E1 := E.M M1 (by decide) (by decide)
      refine ⟨rfl, E1.st.1, fun σ2 M2 S2 => fs_seNamed_77 hG ⟨fw_11, hp.2 rfl σ2 (ev_tr (ev_up M1 (by decide)) (ev_up M2 (by decide))) (E1.st.2 σ2 M2 S2) ?_ (pk_r (P1 (fw_s (by omega) (by omega)) cx) (pk_k M2 (by decide)))⟩⟩
      rw [mk_row M2 (k := 65) (by decide) 4, mk_at M1 (k := 65) (j := 4) (by decide)]
      exact h4
  refine fs_seNamed_0 hG ?_
  rcases h with ⟨rfl, h⟩ | ⟨rfl, h⟩ | ⟨rfl, h⟩
  · have f := fin 58 (A 49 12) ⟨by omega, by omega⟩ (by decide) h
    refine ⟨fun z => absurd rfl z, fun _ => ?_⟩
    rw [show σ 3 12 = A 49 12 from hN.2.2.2.1]
    exact E.seek11 (n := 6) (by decide) ⟨hi.2.1.1, hi.2.1.2⟩ (fun j hj => ⟨(hN.2.2.2.2.2.2.2.1 j hj).2, hi.2.2.2.2.1 j (by omega)⟩) (fun q σ' a b c => fs_seNamed_17 hG (f.1 q σ' a b c)) (fun q => fs_seNamed_17 hG (f.2 q))
  · have f := fin 59 (A 49 13) ⟨by omega, by omega⟩ (by decide) h
    rw [c4, c3]
    refine ⟨fun _ => ⟨fun z => absurd rfl z, fun _ => ?_⟩, fun z => absurd z (by decide)⟩
    rw [show σ 3 13 = A 49 13 from hN.2.2.2.2.1]
    exact E.seek11 (n := 5) (by decide) ⟨hi.2.2.1.1, hi.2.2.1.2⟩ (fun j hj => ⟨hN.2.2.2.2.2.2.2.2.2.2.1 j hj, hi.2.2.2.2.2.1 j (by omega)⟩) (fun q σ' a b c => fs_seNamed_39 hG (f.1 q σ' a b c)) (fun q => fs_seNamed_39 hG (f.2 q))
  · have f := fin 57 (A 49 11) ⟨by omega, by omega⟩ (by decide) h
    rw [c5, c3, c4]
    refine ⟨fun _ => ⟨fun _ => ?_, fun z => absurd z (by decide)⟩, fun z => absurd z (by decide)⟩
    rw [show σ 3 11 = A 49 11 from hN.2.2.1]
    exact E.seek11 (n := 9) (by decide) ⟨hi.1.1, hi.1.2⟩ (fun j hj => ⟨(hN.2.2.2.2.2.2.1 j hj).2.1, hi.2.2.2.1 j (by omega)⟩) (fun q σ' a b c => fs_seNamed_56 hG (f.1 q σ' a b c)) (fun q => fs_seNamed_56 hG (f.2 q)))
theorem fm_seMeas (hinj : nn_inj ad) : fw_H l cy ad wr cr D 179 3 sp_seMeas := fw_mk hinj (⟨"NameNotes$Sentence", "readMeasured", "(LNameNotes$Tape;I)Z"⟩, prog_7_method_8_code, 4, (Option.some Jvm.ClassFile.FieldType.boolean), 2, true, 1) rfl rfl nn_KI5_ok nn_KJ5_ok nn_PF5_ok nn_PS5_ok (by decide +kernel) rfl rfl (List.forall_mem_cons.mpr ⟨fw_row nn_PM5_ok (x := 48) (k := 0) (mn := 22) (np := 1) (ob := true) (ci := 8) (⟨"NameNotes$Tape", "refuse", "(I)Z"⟩, prog_10_method_14_code, 2, (Option.some Jvm.ClassFile.FieldType.boolean), 1, true, 1) rfl (by decide +kernel) rfl rfl (by decide) (fun _ => ⟨_, _, rfl⟩) (fm_refuse hinj), (List.forall_mem_cons.mpr ⟨fw_row nn_PM5_ok (x := 68) (k := 0) (mn := 177) (np := 2) (ob := true) (ci := 5) (⟨"NameNotes$Sentence", "addStep", "(II)V"⟩, prog_7_method_10_code, 3, (Option.none : Option Jvm.ClassFile.FieldType), 2, true, 4) rfl (by decide +kernel) rfl rfl (by decide) (fun _ => ⟨_, _, rfl⟩) (fm_seAdd hinj), (List.forall_mem_cons.mpr ⟨fw_row nn_PM5_ok (x := 72) (k := 0) (mn := 10) (np := 0) (ob := true) (ci := 8) (⟨"NameNotes$Tape", "step", "()V"⟩, prog_10_method_5_code, 2, (Option.none : Option Jvm.ClassFile.FieldType), 0, true, 4) rfl (by decide +kernel) rfl rfl (by decide) (fun _ => ⟨_, _, rfl⟩) (fm_step hinj), (fun _ h => absurd h List.not_mem_nil)⟩)⟩)⟩) (fun as σ K h => by
  obtain ⟨e, p, o, k, rfl, hk, E, h4, h⟩ := h
  have tk1 := (tk_can e p).1
  have e5 : σ 1 5 = (tk e p).1 := E.kind.1
  have c2 : fw_c 2 = 2 := fw_s (by decide) (by decide)
  have c3 : fw_c 3 = 3 := fw_s (by decide) (by decide)
  have cd : fw_c ((tk e p).1 - 60) = (tk e p).1 - 60 := fw_s (by omega) (by omega)
  refine ⟨rfl, fun G hG => fs_seMeas_0 hG ?_⟩
  rw [e5, cd, c2]
  have bad : ¬ (60 ≤ (tk e p).1 ∧ (tk e p).1 ≤ 62) → G 17 [some (2, 65, 0), some (2, 1, 0), some (0, 0, k), some (0, 0, (tk e p).1 - 60)] [] σ := fun q => by
    have en : sn_ms e o p = (1, ev_st e p, o, p) := if_pos q
    rw [en] at h
    exact fs_seMeas_17 hG ⟨1, rfl, E.rf (x := 1) (v := 0) (K := fun rv σ2 => G 22 [some (2, 65, 0), some (2, 1, 0), some (0, 0, k), some (0, 0, (tk e p).1 - 60)] (rv.toList ++ []) σ2) (by decide) (fun σ' a b c => fs_seMeas_22 hG ⟨fw_01, h.1 (show (1 : Int) ≠ 0 by decide) σ' (ev_up a (by decide)) b c⟩)⟩
  refine ⟨fun z => bad (by omega), fun z => ⟨fun z2 => ⟨rfl, E.st.1, fun σ1 M1 S1 => fs_seMeas_27 hG ?_⟩, fun z2 => bad (by omega)⟩⟩
  have E1 := E.st.2 σ1 M1 S1
  have k1 : ¬ ¬ (60 ≤ (tk e p).1 ∧ (tk e p).1 ≤ 62) := fun y => y ⟨by omega, by omega⟩
  rw [E1.kind.2, c3]
  refine ⟨fun q => ⟨_, _, rfl, fun σ2 M2 P2 => fs_seMeas_52 hG ?_⟩, fun q => ⟨1, rfl, ?_⟩⟩
  · have en : sn_ms e o p = (0, 0, o, tn e (tn e p)) := (if_neg k1).trans (if_neg (fun y => y q))
    rw [en] at h
    have E2 := E1.M M2 (by decide) (by decide)
    refine ⟨rfl, E2.st.1, fun σ3 M3 S3 => fs_seMeas_56 hG ⟨fw_11, h.2 rfl σ3 (ev_tr (ev_tr (ev_up M1 (by decide)) (ev_up M2 (by decide))) (ev_up M3 (by decide))) (E2.st.2 σ3 M3 S3) ?_ ?_⟩⟩
    · rw [mk_row M3 (k := 65) (by decide) 4, mk_at M2 (k := 65) (j := 4) (by decide), mk_row M1 (k := 65) (by decide) 4]
      exact h4
    · have n8 := sd_n8 E1 q
      rw [n8] at P2
      exact pk_l (pk_k M1 (by decide)) (pk_r (P2 (fw_s (by omega) (by omega)) ((tk_can e (tn e p)).2.2 q)) (pk_k M3 (by decide)))
  · have en : sn_ms e o p = (1, ev_st e (tn e p), o, tn e p) := (if_neg k1).trans (if_pos q)
    rw [en] at h
    exact E1.rf (x := 1) (v := 0) (K := fun rv σ2 => G 40 [some (2, 65, 0), some (2, 1, 0), some (0, 0, k), some (0, 0, (tk e p).1 - 60)] (rv.toList ++ []) σ2) (by decide) (fun σ' a b c => fs_seMeas_40 hG ⟨fw_01, h.1 (show (1 : Int) ≠ 0 by decide) σ' (ev_tr (ev_up M1 (by decide)) (ev_up a (by decide))) b c⟩))
end
abbrev fk_seOne0 : List fw_CR := [(48, 1, true, 8, 0, sp_refuse), (68, 2, true, 5, 1, sp_seAdd), (72, 0, true, 8, 2, sp_step), (75, 1, false, 0, 1, sp_seKind), (79, 1, true, 8, 3, sp_takeSign), (82, 3, true, 5, 3, sp_seNamed), (85, 2, true, 5, 3, sp_seMeas)]
abbrev st_seOne0 : fw_K → fw_KR → fw_K := fw_st vwCl nn_sh nn_kd fw_kv fw_wc (nn_KI5.map (fun x => x.1)) (nn_KJ5.map (fun x => x.1)) (nn_PF5.map (fun x => x.1)) (nn_PS5.map (fun x => x.1)) fk_seOne0 5 nn_dt175 7 1
theorem fs_seOne0_0 {G : fw_K} {R : fw_KR} (hG : fw_cls st_seOne0 R G) {d : Int} {σ : ab_SG} (h : sp_seKind [(2, 1, 0)] σ (fun rv σ2 => G 4 [some (2, 65, 0), some (2, 1, 0), some (2, 3, 0), some (0, 0, d), none, none, none] (rv.toList ++ []) σ2)) : G 0 [some (2, 65, 0), some (2, 1, 0), some (2, 3, 0), some (0, 0, d), none, none, none] [] σ := fw_on hG [4, 20, 38, 39, 54, 59, 74, 88, 97, 120, 128, 146, 156] 200 h
theorem fs_seOne0_4 {G : fw_K} {R : fw_KR} (hG : fw_cls st_seOne0 R G) {a3 b0 : Int} {o4 o6 : Option ab_AV} {σ : ab_SG} (h : (fw_c (σ 1 5) ≠ fw_c 40 → G 20 [some (2, 65, 0), some (2, 1, 0), some (2, 3, 0), some (0, 0, a3), some (0, 0, b0), none, o6] [(0, 0, 0)] σ) ∧ (fw_c (σ 1 5) = fw_c 40 → G 20 [some (2, 65, 0), some (2, 1, 0), some (2, 3, 0), some (0, 0, a3), some (0, 0, b0), none, o6] [(0, 0, 1)] σ)) : G 4 [some (2, 65, 0), some (2, 1, 0), some (2, 3, 0), some (0, 0, a3), o4, none, o6] [(0, 0, b0)] σ := fw_on hG [4, 20, 38, 39, 54, 59, 74, 88, 97, 120, 128, 146, 156] 200 h
theorem fs_seOne0_20 {G : fw_K} {R : fw_KR} (hG : fw_cls st_seOne0 R G) {a3 a4 b0 : Int} {o6 : Option ab_AV} {σ : ab_SG} (h : (fw_c a4 ≠ fw_c (-1) → G 39 [some (2, 65, 0), some (2, 1, 0), some (2, 3, 0), some (0, 0, a3), some (0, 0, a4), some (0, 0, b0), o6] [] σ) ∧ (fw_c a4 = fw_c (-1) → (fw_c b0 ≠ 0 → G 39 [some (2, 65, 0), some (2, 1, 0), some (2, 3, 0), some (0, 0, a3), some (0, 0, a4), some (0, 0, b0), o6] [] σ) ∧ (fw_c b0 = 0 → sp_refuse [(2, 1, 0), (0, 0, 1)] σ (fun rv σ2 => G 38 [some (2, 65, 0), some (2, 1, 0), some (2, 3, 0), some (0, 0, a3), some (0, 0, a4), some (0, 0, b0), o6] (rv.toList ++ []) σ2)))) : G 20 [some (2, 65, 0), some (2, 1, 0), some (2, 3, 0), some (0, 0, a3), some (0, 0, a4), none, o6] [(0, 0, b0)] σ := fw_on hG [4, 20, 38, 39, 54, 59, 74, 88, 97, 120, 128, 146, 156] 200 h
theorem fs_seOne0_39 {G : fw_K} {R : fw_KR} (hG : fw_cls st_seOne0 R G) {a3 a4 a5 : Int} {o6 : Option ab_AV} {σ : ab_SG} (h : (fw_c 20 ≤ fw_c (σ 65 4) → G 54 [some (2, 65, 0), some (2, 1, 0), some (2, 3, 0), some (0, 0, a3), some (0, 0, a4), some (0, 0, a5), o6] [] σ) ∧ (fw_c (σ 65 4) < fw_c 20 → (fw_c a3 ≤ fw_c 8 → sp_step [(2, 1, 0)] (ab_ups σ 65 4 (fw_c ((σ 65 4) + 1))) (fun rv σ2 => G 74 [some (2, 65, 0), some (2, 1, 0), some (2, 3, 0), some (0, 0, a3), some (0, 0, a4), some (0, 0, a5), o6] (rv.toList ++ []) σ2)) ∧ (fw_c 8 < fw_c a3 → G 54 [some (2, 65, 0), some (2, 1, 0), some (2, 3, 0), some (0, 0, a3), some (0, 0, a4), some (0, 0, a5), o6] [] σ))) : G 39 [some (2, 65, 0), some (2, 1, 0), some (2, 3, 0), some (0, 0, a3), some (0, 0, a4), some (0, 0, a5), o6] [] σ := fw_on hG [4, 20, 38, 39, 54, 59, 74, 88, 97, 120, 128, 146, 156] 200 h
theorem fs_seOne0_38 {G : fw_K} {R : fw_KR} (hG : fw_cls st_seOne0 R G) {a5 b0 : Int} {o1 o2 o3 o4 o6 : Option ab_AV} {σ : ab_SG} (h : (0 ≤ fw_c b0 ∧ fw_c b0 ≤ 1) ∧ R (some (0, 0, b0)) σ) : G 38 [some (2, 65, 0), o1, o2, o3, o4, some (0, 0, a5), o6] [(0, 0, b0)] σ := fw_on hG [4, 20, 38, 39, 54, 59, 74, 88, 97, 120, 128, 146, 156] 200 h
theorem fs_seOne0_54 {G : fw_K} {R : fw_KR} (hG : fw_cls st_seOne0 R G) {a5 : Int} {o2 o3 o4 o6 : Option ab_AV} {σ : ab_SG} (h : sp_refuse [(2, 1, 0), (0, 0, 4)] σ (fun rv σ2 => G 59 [some (2, 65, 0), some (2, 1, 0), o2, o3, o4, some (0, 0, a5), o6] (rv.toList ++ []) σ2)) : G 54 [some (2, 65, 0), some (2, 1, 0), o2, o3, o4, some (0, 0, a5), o6] [] σ := fw_on hG [4, 20, 38, 39, 54, 59, 74, 88, 97, 120, 128, 146, 156] 200 h
theorem fs_seOne0_59 {G : fw_K} {R : fw_KR} (hG : fw_cls st_seOne0 R G) {a5 b0 : Int} {o1 o2 o3 o4 o6 : Option ab_AV} {σ : ab_SG} (h : (0 ≤ fw_c b0 ∧ fw_c b0 ≤ 1) ∧ R (some (0, 0, b0)) σ) : G 59 [some (2, 65, 0), o1, o2, o3, o4, some (0, 0, a5), o6] [(0, 0, b0)] σ := fw_on hG [4, 20, 38, 39, 54, 59, 74, 88, 97, 120, 128, 146, 156] 200 h
abbrev fk_seCond0 : List fw_CR := [(52, 3, true, 5, 5, sp_seOne 0), (61, 1, true, 8, 0, sp_isWord), (68, 2, true, 5, 1, sp_seAdd), (72, 0, true, 8, 2, sp_step)]
abbrev st_seCond0 : fw_K → fw_KR → fw_K := fw_st vwCl nn_sh nn_kd fw_kv fw_wc (nn_KI5.map (fun x => x.1)) (nn_KJ5.map (fun x => x.1)) (nn_PF5.map (fun x => x.1)) (nn_PS5.map (fun x => x.1)) fk_seCond0 6 nn_dt174 8 1
theorem fs_seCond0_0 {G : fw_K} {R : fw_KR} (hG : fw_cls st_seCond0 R G) {d : Int} {σ : ab_SG} (h : sp_seOne 0 [(2, 65, 0), (2, 1, 0), (2, 3, 0), (0, 0, d)] σ (fun rv σ2 => G 7 [some (2, 65, 0), some (2, 1, 0), some (2, 3, 0), some (0, 0, d), none, none, none, none] (rv.toList ++ []) σ2)) : G 0 [some (2, 65, 0), some (2, 1, 0), some (2, 3, 0), some (0, 0, d), none, none, none, none] [] σ := fw_on hG [7, 15, 34, 44, 47, 54, 72, 84, 91, 98, 111, 117, 128] 200 h
theorem fs_seCond0_7 {G : fw_K} {R : fw_KR} (hG : fw_cls st_seCond0 R G) {a3 b0 : Int} {o5 o6 o7 : Option ab_AV} {σ : ab_SG} (h : G 15 [some (2, 65, 0), some (2, 1, 0), some (2, 3, 0), some (0, 0, a3), some (0, 0, b0), some (0, 0, 0), some (0, 0, 0), o7] [] σ) : G 7 [some (2, 65, 0), some (2, 1, 0), some (2, 3, 0), some (0, 0, a3), none, o5, o6, o7] [(0, 0, b0)] σ := fw_on hG [7, 15, 34, 44, 47, 54, 72, 84, 91, 98, 111, 117, 128] 200 h
theorem fs_seCond0_15 {G : fw_K} {R : fw_KR} (hG : fw_cls st_seCond0 R G) {a3 a4 a5 a6 : Int} {o7 : Option ab_AV} {σ : ab_SG} (h : (fw_c 20 ≤ fw_c a6 → G 117 [some (2, 65, 0), some (2, 1, 0), some (2, 3, 0), some (0, 0, a3), some (0, 0, a4), some (0, 0, a5), some (0, 0, a6), o7] [] σ) ∧ (fw_c a6 < fw_c 20 → (fw_c a4 = 0 → G 117 [some (2, 65, 0), some (2, 1, 0), some (2, 3, 0), some (0, 0, a3), some (0, 0, a4), some (0, 0, a5), some (0, 0, a6), o7] [] σ) ∧ (fw_c a4 ≠ 0 → sp_isWord [(2, 1, 0), (4, 0, 8)] σ (fun rv σ2 => G 34 [some (2, 65, 0), some (2, 1, 0), some (2, 3, 0), some (0, 0, a3), some (0, 0, a4), some (0, 0, a5), some (0, 0, a6), o7] (rv.toList ++ []) σ2)))) : G 15 [some (2, 65, 0), some (2, 1, 0), some (2, 3, 0), some (0, 0, a3), some (0, 0, a4), some (0, 0, a5), some (0, 0, a6), o7] [] σ := fw_on hG [7, 15, 34, 44, 47, 54, 72, 84, 91, 98, 111, 117, 128] 200 h
theorem fs_seCond0_117 {G : fw_K} {R : fw_KR} (hG : fw_cls st_seCond0 R G) {a4 a5 : Int} {o1 o2 o3 o6 o7 : Option ab_AV} {σ : ab_SG} (h : (fw_c a5 = 0 → G 128 [some (2, 65, 0), o1, o2, o3, some (0, 0, a4), some (0, 0, a5), o6, o7] [] σ) ∧ (fw_c a5 ≠ 0 → sp_seAdd [(2, 65, 0), (0, 0, 2), (0, 0, 0)] σ (fun rv σ2 => G 128 [some (2, 65, 0), o1, o2, o3, some (0, 0, a4), some (0, 0, a5), o6, o7] (rv.toList ++ []) σ2))) : G 117 [some (2, 65, 0), o1, o2, o3, some (0, 0, a4), some (0, 0, a5), o6, o7] [] σ := fw_on hG [7, 15, 34, 44, 47, 54, 72, 84, 91, 98, 111, 117, 128] 200 h
theorem fs_seCond0_34 {G : fw_K} {R : fw_KR} (hG : fw_cls st_seCond0 R G) {a3 a4 a5 a6 b0 : Int} {o7 : Option ab_AV} {σ : ab_SG} (h : (fw_c b0 ≠ 0 → G 47 [some (2, 65, 0), some (2, 1, 0), some (2, 3, 0), some (0, 0, a3), some (0, 0, a4), some (0, 0, a5), some (0, 0, a6), o7] [] σ) ∧ (fw_c b0 = 0 → sp_isWord [(2, 1, 0), (4, 0, 7)] σ (fun rv σ2 => G 44 [some (2, 65, 0), some (2, 1, 0), some (2, 3, 0), some (0, 0, a3), some (0, 0, a4), some (0, 0, a5), some (0, 0, a6), o7] (rv.toList ++ []) σ2))) : G 34 [some (2, 65, 0), some (2, 1, 0), some (2, 3, 0), some (0, 0, a3), some (0, 0, a4), some (0, 0, a5), some (0, 0, a6), o7] [(0, 0, b0)] σ := fw_on hG [7, 15, 34, 44, 47, 54, 72, 84, 91, 98, 111, 117, 128] 200 h
theorem fs_seCond0_128 {G : fw_K} {R : fw_KR} (hG : fw_cls st_seCond0 R G) {a4 : Int} {o1 o2 o3 o5 o6 o7 : Option ab_AV} {σ : ab_SG} (h : (0 ≤ fw_c a4 ∧ fw_c a4 ≤ 1) ∧ R (some (0, 0, a4)) σ) : G 128 [some (2, 65, 0), o1, o2, o3, some (0, 0, a4), o5, o6, o7] [] σ := fw_on hG [7, 15, 34, 44, 47, 54, 72, 84, 91, 98, 111, 117, 128] 200 h
theorem fs_seCond0_47 {G : fw_K} {R : fw_KR} (hG : fw_cls st_seCond0 R G) {a3 a4 a5 a6 : Int} {o7 : Option ab_AV} {σ : ab_SG} (h : sp_isWord [(2, 1, 0), (4, 0, 8)] σ (fun rv σ2 => G 54 [some (2, 65, 0), some (2, 1, 0), some (2, 3, 0), some (0, 0, a3), some (0, 0, a4), some (0, 0, a5), some (0, 0, a6), o7] (rv.toList ++ []) σ2)) : G 47 [some (2, 65, 0), some (2, 1, 0), some (2, 3, 0), some (0, 0, a3), some (0, 0, a4), some (0, 0, a5), some (0, 0, a6), o7] [] σ := fw_on hG [7, 15, 34, 44, 47, 54, 72, 84, 91, 98, 111, 117, 128] 200 h
theorem fs_seCond0_44 {G : fw_K} {R : fw_KR} (hG : fw_cls st_seCond0 R G) {a3 a4 a5 a6 b0 : Int} {o7 : Option ab_AV} {σ : ab_SG} (h : (fw_c b0 = 0 → G 117 [some (2, 65, 0), some (2, 1, 0), some (2, 3, 0), some (0, 0, a3), some (0, 0, a4), some (0, 0, a5), some (0, 0, a6), o7] [] σ) ∧ (fw_c b0 ≠ 0 → G 47 [some (2, 65, 0), some (2, 1, 0), some (2, 3, 0), some (0, 0, a3), some (0, 0, a4), some (0, 0, a5), some (0, 0, a6), o7] [] σ)) : G 44 [some (2, 65, 0), some (2, 1, 0), some (2, 3, 0), some (0, 0, a3), some (0, 0, a4), some (0, 0, a5), some (0, 0, a6), o7] [(0, 0, b0)] σ := fw_on hG [7, 15, 34, 44, 47, 54, 72, 84, 91, 98, 111, 117, 128] 200 h
theorem fs_seCond0_54 {G : fw_K} {R : fw_KR} (hG : fw_cls st_seCond0 R G) {a3 a4 a5 a6 b0 : Int} {o7 : Option ab_AV} {σ : ab_SG} (h : (fw_c b0 ≠ 0 → G 72 [some (2, 65, 0), some (2, 1, 0), some (2, 3, 0), some (0, 0, a3), some (0, 0, a4), some (0, 0, a5), some (0, 0, a6), some (0, 0, b0)] [] σ) ∧ (fw_c b0 = 0 → (fw_c a5 = 0 → G 72 [some (2, 65, 0), some (2, 1, 0), some (2, 3, 0), some (0, 0, a3), some (0, 0, a4), some (0, 0, a5), some (0, 0, a6), some (0, 0, b0)] [] σ) ∧ (fw_c a5 ≠ 0 → sp_seAdd [(2, 65, 0), (0, 0, 2), (0, 0, 0)] σ (fun rv σ2 => G 72 [some (2, 65, 0), some (2, 1, 0), some (2, 3, 0), some (0, 0, a3), some (0, 0, a4), some (0, 0, a5), some (0, 0, a6), some (0, 0, b0)] (rv.toList ++ []) σ2)))) : G 54 [some (2, 65, 0), some (2, 1, 0), some (2, 3, 0), some (0, 0, a3), some (0, 0, a4), some (0, 0, a5), some (0, 0, a6), o7] [(0, 0, b0)] σ := fw_on hG [7, 15, 34, 44, 47, 54, 72, 84, 91, 98, 111, 117, 128] 200 h
theorem fs_seCond0_72 {G : fw_K} {R : fw_KR} (hG : fw_cls st_seCond0 R G) {a3 a4 a5 a6 a7 : Int} {σ : ab_SG} (h : (fw_c a7 ≠ 0 → G 84 [some (2, 65, 0), some (2, 1, 0), some (2, 3, 0), some (0, 0, a3), some (0, 0, a4), some (0, 0, a5), some (0, 0, a6), some (0, 0, a7)] [(0, 0, 0), (0, 0, a5)] σ) ∧ (fw_c a7 = 0 → G 84 [some (2, 65, 0), some (2, 1, 0), some (2, 3, 0), some (0, 0, a3), some (0, 0, a4), some (0, 0, a5), some (0, 0, a6), some (0, 0, a7)] [(0, 0, 1), (0, 0, a5)] σ)) : G 72 [some (2, 65, 0), some (2, 1, 0), some (2, 3, 0), some (0, 0, a3), some (0, 0, a4), some (0, 0, a5), some (0, 0, a6), some (0, 0, a7)] [] σ := fw_on hG [7, 15, 34, 44, 47, 54, 72, 84, 91, 98, 111, 117, 128] 200 h
theorem fs_seCond0_84 {G : fw_K} {R : fw_KR} (hG : fw_cls st_seCond0 R G) {a3 a4 a6 a7 b0 b1 : Int} {o5 : Option ab_AV} {σ : ab_SG} (h : sp_step [(2, 1, 0)] σ (fun rv σ2 => G 91 [some (2, 65, 0), some (2, 1, 0), some (2, 3, 0), some (0, 0, a3), some (0, 0, a4), some (0, 0, fw_op 9 b1 b0), some (0, 0, a6), some (0, 0, a7)] (rv.toList ++ []) σ2)) : G 84 [some (2, 65, 0), some (2, 1, 0), some (2, 3, 0), some (0, 0, a3), some (0, 0, a4), o5, some (0, 0, a6), some (0, 0, a7)] [(0, 0, b0), (0, 0, b1)] σ := fw_on hG [7, 15, 34, 44, 47, 54, 72, 84, 91, 98, 111, 117, 128] 200 h
theorem fs_seCond0_91 {G : fw_K} {R : fw_KR} (hG : fw_cls st_seCond0 R G) {a3 a4 a5 a6 a7 : Int} {σ : ab_SG} (h : sp_seOne 0 [(2, 65, 0), (2, 1, 0), (2, 3, 0), (0, 0, a3)] σ (fun rv σ2 => G 98 [some (2, 65, 0), some (2, 1, 0), some (2, 3, 0), some (0, 0, a3), some (0, 0, a4), some (0, 0, a5), some (0, 0, a6), some (0, 0, a7)] (rv.toList ++ []) σ2)) : G 91 [some (2, 65, 0), some (2, 1, 0), some (2, 3, 0), some (0, 0, a3), some (0, 0, a4), some (0, 0, a5), some (0, 0, a6), some (0, 0, a7)] [] σ := fw_on hG [7, 15, 34, 44, 47, 54, 72, 84, 91, 98, 111, 117, 128] 200 h
theorem fs_seCond0_98 {G : fw_K} {R : fw_KR} (hG : fw_cls st_seCond0 R G) {a3 a4 a5 a6 a7 b0 : Int} {σ : ab_SG} (h : (fw_c a7 = 0 → G 111 [some (2, 65, 0), some (2, 1, 0), some (2, 3, 0), some (0, 0, a3), some (0, 0, b0), some (0, 0, a5), some (0, 0, a6), some (0, 0, a7)] [] σ) ∧ (fw_c a7 ≠ 0 → sp_seAdd [(2, 65, 0), (0, 0, 1), (0, 0, 0)] σ (fun rv σ2 => G 111 [some (2, 65, 0), some (2, 1, 0), some (2, 3, 0), some (0, 0, a3), some (0, 0, b0), some (0, 0, a5), some (0, 0, a6), some (0, 0, a7)] (rv.toList ++ []) σ2))) : G 98 [some (2, 65, 0), some (2, 1, 0), some (2, 3, 0), some (0, 0, a3), some (0, 0, a4), some (0, 0, a5), some (0, 0, a6), some (0, 0, a7)] [(0, 0, b0)] σ := fw_on hG [7, 15, 34, 44, 47, 54, 72, 84, 91, 98, 111, 117, 128] 200 h
theorem fs_seCond0_111 {G : fw_K} {R : fw_KR} (hG : fw_cls st_seCond0 R G) {a3 a4 a5 a6 : Int} {o7 : Option ab_AV} {σ : ab_SG} (h : G 15 [some (2, 65, 0), some (2, 1, 0), some (2, 3, 0), some (0, 0, a3), some (0, 0, a4), some (0, 0, a5), some (0, 0, a6 + 1), o7] [] σ) : G 111 [some (2, 65, 0), some (2, 1, 0), some (2, 3, 0), some (0, 0, a3), some (0, 0, a4), some (0, 0, a5), some (0, 0, a6), o7] [] σ := fw_on hG [7, 15, 34, 44, 47, 54, 72, 84, 91, 98, 111, 117, 128] 200 h
section
variable {l : Launch} {cy : Nat → ClassId} {ad wr cr : Nat → Nat} {D : va_G}
theorem fm_seOne0 (hinj : nn_inj ad) : fw_H l cy ad wr cr D 175 5 (sp_seOne 0) := fw_mk hinj (⟨"NameNotes$Sentence", "readOne", "(LNameNotes$Tape;LNameNotes$Studio;I)Z"⟩, prog_7_method_6_code, 7, (Option.some Jvm.ClassFile.FieldType.boolean), 3, true, 1) rfl rfl nn_KI5_ok nn_KJ5_ok nn_PF5_ok nn_PS5_ok (by decide +kernel) rfl rfl (List.forall_mem_cons.mpr ⟨fw_row nn_PM5_ok (x := 48) (k := 0) (mn := 22) (np := 1) (ob := true) (ci := 8) (⟨"NameNotes$Tape", "refuse", "(I)Z"⟩, prog_10_method_14_code, 2, (Option.some Jvm.ClassFile.FieldType.boolean), 1, true, 1) rfl (by decide +kernel) rfl rfl (by decide) (fun _ => ⟨_, _, rfl⟩) (fm_refuse hinj), (List.forall_mem_cons.mpr ⟨fw_row nn_PM5_ok (x := 68) (k := 0) (mn := 177) (np := 2) (ob := true) (ci := 5) (⟨"NameNotes$Sentence", "addStep", "(II)V"⟩, prog_7_method_10_code, 3, (Option.none : Option Jvm.ClassFile.FieldType), 2, true, 4) rfl (by decide +kernel) rfl rfl (by decide) (fun _ => ⟨_, _, rfl⟩) (fm_seAdd hinj), (List.forall_mem_cons.mpr ⟨fw_row nn_PM5_ok (x := 72) (k := 0) (mn := 10) (np := 0) (ob := true) (ci := 8) (⟨"NameNotes$Tape", "step", "()V"⟩, prog_10_method_5_code, 2, (Option.none : Option Jvm.ClassFile.FieldType), 0, true, 4) rfl (by decide +kernel) rfl rfl (by decide) (fun _ => ⟨_, _, rfl⟩) (fm_step hinj), (List.forall_mem_cons.mpr ⟨fw_row nn_PM5_ok (x := 75) (k := 0) (mn := 176) (np := 1) (ob := false) (ci := 0) (⟨"NameNotes$Sentence", "kindOf", "(LNameNotes$Tape;)I"⟩, prog_7_method_9_code, 1, (Option.some Jvm.ClassFile.FieldType.int), 1, false, 0) rfl (by decide +kernel) rfl rfl (by decide) (fun q => by cases q) (fm_seKind hinj), (List.forall_mem_cons.mpr ⟨fw_row nn_PM5_ok (x := 79) (k := 0) (mn := 40) (np := 1) (ob := true) (ci := 8) (⟨"NameNotes$Tape", "takeSign", "(I)Z"⟩, prog_10_method_13_code, 2, (Option.some Jvm.ClassFile.FieldType.boolean), 1, true, 1) rfl (by decide +kernel) rfl rfl (by decide) (fun _ => ⟨_, _, rfl⟩) (fm_takeSign hinj), (List.forall_mem_cons.mpr ⟨fw_row nn_PM5_ok (x := 82) (k := 0) (mn := 178) (np := 3) (ob := true) (ci := 5) (⟨"NameNotes$Sentence", "readNamed", "(LNameNotes$Tape;LNameNotes$Studio;I)Z"⟩, prog_7_method_7_code, 5, (Option.some Jvm.ClassFile.FieldType.boolean), 3, true, 1) rfl (by decide +kernel) rfl rfl (by decide) (fun _ => ⟨_, _, rfl⟩) (fm_seNamed hinj), (List.forall_mem_cons.mpr ⟨fw_row nn_PM5_ok (x := 85) (k := 0) (mn := 179) (np := 2) (ob := true) (ci := 5) (⟨"NameNotes$Sentence", "readMeasured", "(LNameNotes$Tape;I)Z"⟩, prog_7_method_8_code, 4, (Option.some Jvm.ClassFile.FieldType.boolean), 2, true, 1) rfl (by decide +kernel) rfl rfl (by decide) (fun _ => ⟨_, _, rfl⟩) (fm_seMeas hinj), (fun _ h => absurd h List.not_mem_nil)⟩)⟩)⟩)⟩)⟩)⟩)⟩) (fun as σ K h => by
  obtain ⟨A, e, p, o, rfl, hN, E, ⟨h4, ho⟩, h⟩ := h
  have tk1 := (tk_can e p).1
  have m1 : fw_c (-1) = -1 := fw_s (by decide) (by decide)
  have c40 : fw_c 40 = 40 := fw_s (by decide) (by decide)
  have c20 : fw_c 20 = 20 := fw_s (by decide) (by decide)
  have c8 : fw_c 8 = 8 := fw_s (by decide) (by decide)
  have c6 : fw_c 6 = 6 := fw_s (by decide) (by decide)
  have cd : fw_c (9 - ((0 : Nat) : Int)) = 9 - ((0 : Nat) : Int) := fw_s (by decide) (by decide)
  have c4 : fw_c (σ 65 4) = (o : Int) := by rw [h4]; exact fw_s (by omega) (by omega)
  have sv := sk_in e p
  have csk : fw_c (sk_v e p) = sk_v e p := fw_s (by omega) (by omega)
  have n40 : (tk e p).1 = 40 → ¬ (9 ≤ tw e p ∧ tw e p ≤ 16) := fun z y => by
    have := tw_k (e := e) (p := p) (by omega)
    omega
  refine ⟨rfl, fun G hG => fs_seOne0_0 hG ⟨e, p, rfl, E, fs_seOne0_4 hG ?_⟩⟩
  rw [E.kind.2, c40]
  have four : sn_st e p → sn_one A e 0 o p = (4, ev_st e p, o, p) → ∀ a5 : Int, G 54 [some (2, 65, 0), some (2, 1, 0), some (2, 3, 0), some (0, 0, 9 - ((0 : Nat) : Int)), some (0, 0, sk_v e p), some (0, 0, a5), none] [] σ := fun y en a5 => by
    rw [en] at h
    exact fs_seOne0_54 hG ⟨4, rfl, E.rf (x := 4) (v := 0) (K := fun rv σ2 => G 59 [some (2, 65, 0), some (2, 1, 0), some (2, 3, 0), some (0, 0, 9 - ((0 : Nat) : Int)), some (0, 0, sk_v e p), some (0, 0, a5), none] (rv.toList ++ []) σ2) (by decide) (fun σ' a b c => fs_seOne0_59 hG ⟨fw_01, h.1 (show (4 : Int) ≠ 0 by decide) σ' (ev_up a (by decide)) b c⟩)⟩
  have go : sn_st e p → ∀ a5 : Int, ((a5 = 1 ∧ (tk e p).1 = 40) ∨ (a5 = 0 ∧ (tk e p).1 ≠ 40)) → G 39 [some (2, 65, 0), some (2, 1, 0), some (2, 3, 0), some (0, 0, 9 - ((0 : Nat) : Int)), some (0, 0, sk_v e p), some (0, 0, a5), none] [] σ := by
    intro y a5 h5
    refine fs_seOne0_39 hG ?_
    rw [c4, c20, c8, cd, h4]
    have en : sn_one A e 0 o p = (4, ev_st e p, o, p) := if_pos y
    exact ⟨fun _ => four y en a5, fun _ => ⟨fun z => absurd z (by decide), fun _ => four y en a5⟩⟩
  have no : ¬ sn_st e p → G 20 [some (2, 65, 0), some (2, 1, 0), some (2, 3, 0), some (0, 0, 9 - ((0 : Nat) : Int)), some (0, 0, sk_v e p), none, none] [(0, 0, 0)] σ := fun y => by
    have en : sn_one A e 0 o p = (1, ev_st e p, o, p) := if_neg y
    rw [en] at h
    have ek : sk_v e p = -1 := by
      have : ¬ (9 ≤ tw e p ∧ tw e p ≤ 16) := fun z => y (Or.inr z)
      omega
    refine fs_seOne0_20 hG ⟨fun z => absurd (by rw [ek]) z, fun _ => ⟨fun z => absurd fw_c0 z, fun _ => ⟨1, rfl, E.rf (x := 1) (v := 0) (K := fun rv σ2 => G 38 [some (2, 65, 0), some (2, 1, 0), some (2, 3, 0), some (0, 0, 9 - ((0 : Nat) : Int)), some (0, 0, sk_v e p), some (0, 0, 0), none] (rv.toList ++ []) σ2) (by decide) (fun σ' a b c => fs_seOne0_38 hG ⟨fw_01, h.1 (show (1 : Int) ≠ 0 by decide) σ' (ev_up a (by decide)) b c⟩)⟩⟩⟩
  refine ⟨fun z => ?_, fun z => ?_⟩
  · by_cases y : sn_st e p
    · have y2 : 9 ≤ tw e p ∧ tw e p ≤ 16 := y.resolve_left z
      exact fs_seOne0_20 hG ⟨fun _ => go y 0 (Or.inr ⟨rfl, z⟩), fun u => absurd u (by rw [csk, m1]; omega)⟩
    · exact no y
  · have y : sn_st e p := Or.inl z
    have ek : sk_v e p = -1 := by
      have := n40 z
      omega
    exact fs_seOne0_20 hG ⟨fun u => absurd (by rw [ek]) u, fun _ => ⟨fun _ => go y 1 (Or.inl ⟨rfl, z⟩), fun u => absurd (fw_c1.symm.trans u) (by decide)⟩⟩)
theorem fm_seCond0 (hinj : nn_inj ad) : fw_H l cy ad wr cr D 174 6 (sp_seCond 0) := fw_mk hinj (⟨"NameNotes$Sentence", "readCond", "(LNameNotes$Tape;LNameNotes$Studio;I)Z"⟩, prog_7_method_5_code, 8, (Option.some Jvm.ClassFile.FieldType.boolean), 3, true, 1) rfl rfl nn_KI5_ok nn_KJ5_ok nn_PF5_ok nn_PS5_ok (by decide +kernel) rfl rfl (List.forall_mem_cons.mpr ⟨fw_row nn_PM5_ok (x := 52) (k := 0) (mn := 175) (np := 3) (ob := true) (ci := 5) (⟨"NameNotes$Sentence", "readOne", "(LNameNotes$Tape;LNameNotes$Studio;I)Z"⟩, prog_7_method_6_code, 7, (Option.some Jvm.ClassFile.FieldType.boolean), 3, true, 1) rfl (by decide +kernel) rfl rfl (by decide) (fun _ => ⟨_, _, rfl⟩) (fm_seOne0 hinj), (List.forall_mem_cons.mpr ⟨fw_row nn_PM5_ok (x := 61) (k := 0) (mn := 20) (np := 1) (ob := true) (ci := 8) (⟨"NameNotes$Tape", "isWord", "(LNameNotes$Word;)Z"⟩, prog_10_method_10_code, 2, (Option.some Jvm.ClassFile.FieldType.boolean), 1, true, 1) rfl (by decide +kernel) rfl rfl (by decide) (fun _ => ⟨_, _, rfl⟩) (fm_isWord hinj), (List.forall_mem_cons.mpr ⟨fw_row nn_PM5_ok (x := 68) (k := 0) (mn := 177) (np := 2) (ob := true) (ci := 5) (⟨"NameNotes$Sentence", "addStep", "(II)V"⟩, prog_7_method_10_code, 3, (Option.none : Option Jvm.ClassFile.FieldType), 2, true, 4) rfl (by decide +kernel) rfl rfl (by decide) (fun _ => ⟨_, _, rfl⟩) (fm_seAdd hinj), (List.forall_mem_cons.mpr ⟨fw_row nn_PM5_ok (x := 72) (k := 0) (mn := 10) (np := 0) (ob := true) (ci := 8) (⟨"NameNotes$Tape", "step", "()V"⟩, prog_10_method_5_code, 2, (Option.none : Option Jvm.ClassFile.FieldType), 0, true, 4) rfl (by decide +kernel) rfl rfl (by decide) (fun _ => ⟨_, _, rfl⟩) (fm_step hinj), (fun _ h => absurd h List.not_mem_nil)⟩)⟩)⟩)⟩) (fun as σ K h => by
  obtain ⟨A, e, p, o, rfl, hN, E, ⟨h4, ho⟩, h⟩ := h
  have c20 : fw_c 20 = 20 := fw_s (by decide) (by decide)
  have c2 : fw_c 2 = 2 := fw_s (by decide) (by decide)
  have og := sn_one_gr A e 0
  refine ⟨rfl, fun G hG => ?_⟩
  have ex0 : ∀ (τ : ab_SG) (a5 a6 : Int) (o7 : Option ab_AV), (∀ τ' : ab_SG, ab_okM se_M τ τ' → K (some (0, 0, 0)) τ') → G 15 [some (2, 65, 0), some (2, 1, 0), some (2, 3, 0), some (0, 0, 9 - ((0 : Nat) : Int)), some (0, 0, 0), some (0, 0, a5), some (0, 0, a6), o7] [] τ := by
    intro τ a5 a6 o7 k
    have g : G 117 [some (2, 65, 0), some (2, 1, 0), some (2, 3, 0), some (0, 0, 9 - ((0 : Nat) : Int)), some (0, 0, 0), some (0, 0, a5), some (0, 0, a6), o7] [] τ := fs_seCond0_117 hG ⟨fun _ => fs_seCond0_128 hG ⟨fw_01, k τ (fw_okM_refl _ _)⟩, fun _ => ⟨_, _, rfl, fun τ' M _ => fs_seCond0_128 hG ⟨fw_01, k τ' M⟩⟩⟩
    exact fs_seCond0_15 hG ⟨fun _ => g, fun _ => ⟨fun _ => g, fun z => absurd fw_c0 z⟩⟩
  have ex1 : ∀ (τ : ab_SG) (w : Bool) (a6 : Int) (o7 : Option ab_AV), (∀ τ' : ab_SG, ab_okM se_M τ τ' → pk τ τ' (fl w) → K (some (0, 0, 1)) τ') → G 117 [some (2, 65, 0), some (2, 1, 0), some (2, 3, 0), some (0, 0, 9 - ((0 : Nat) : Int)), some (0, 0, 1), some (0, 0, bI w), some (0, 0, a6), o7] [] τ := fun τ w a6 o7 k =>
    fs_seCond0_117 hG ⟨fun z => fs_seCond0_128 hG ⟨fw_11, k τ (fw_okM_refl _ _) (by rw [bI_0 z]; exact pk_0 τ)⟩, fun z => ⟨_, _, rfl, fun τ' M P => fs_seCond0_128 hG ⟨fw_11, k τ' M (by rw [bI_1 z]; exact P c2 fw_c0)⟩⟩⟩
  have add : ∀ {τ τ' : ab_SG}, ab_okM se_M τ τ' → ab_okM sN_M τ τ' := fun M => ev_up M (by decide)
  have loop : ∀ (g i o1 p1 : Nat) (τ : ab_SG) (w : Bool) (L1 : sl_T) (o7 : Option ab_AV), i + g = 20 → i + 1 ≤ o1 → o1 ≤ 20 → ab_okM sN_M σ τ → eD τ e p1 → τ 65 4 = (o1 : Int) → pk σ τ L1 → sn_cd (sn_one A e 0) e o p = sn_lp (sn_one A e 0) e g o1 p1 → sl_cd (sn_one A e 0) (sl_one A e 0) e o p = L1 ++ sl_lp (sn_one A e 0) (sl_one A e 0) e g w o1 p1 → G 15 [some (2, 65, 0), some (2, 1, 0), some (2, 3, 0), some (0, 0, 9 - ((0 : Nat) : Int)), some (0, 0, 1), some (0, 0, bI w), some (0, 0, (i : Int)), o7] [] τ := by
    intro g
    induction g with
    | zero =>
      intro i o1 p1 τ w L1 o7 hi h1 h2 _ _ _ _ _ _
      omega
    | succ g ih =>
      intro i o1 p1 τ w L1 o7 hi h1 h2 M E1 f1 hp hr hL
      have ci : fw_c (i : Int) = (i : Int) := fw_s (by omega) (by omega)
      rw [sn_lps] at hr
      rw [sl_lps] at hL
      have iw : ∀ (τ1 : ab_SG) (x : Int) (Q : fw_KR), eD τ1 e p1 → 0 ≤ x → x ≤ 16 → (tw e p1 = x → Q (some (0, 0, 1)) τ1) → (tw e p1 ≠ x → Q (some (0, 0, 0)) τ1) → sp_isWord [(2, 1, 0), (4, 0, x)] τ1 Q := by
        intro τ1 x Q E2 h1 h2 a b
        have kw := E2.kw
        refine ⟨x, rfl, ⟨kw.2.1, kw.2.2, by omega, h2⟩, ?_⟩
        by_cases c : tw e p1 = x
        · rw [fw_bo_t ((E2.isw h1).mpr c)]
          exact a c
        · rw [fw_bo_f (fun z => c ((E2.isw h1).mp z))]
          exact b c
      have u0 : ∀ {X : Prop}, fw_c 0 ≠ 0 → X := fun z => absurd fw_c0 z
      have u1 : ∀ {X : Prop}, fw_c 1 = 0 → X := fun z => absurd (fw_c1.symm.trans z) (by decide)
      have n1 : fw_c 1 ≠ 0 := fun z => u1 z
      have stop : ¬ (tw e p1 = 8 ∨ tw e p1 = 7) → G 117 [some (2, 65, 0), some (2, 1, 0), some (2, 3, 0), some (0, 0, 9 - ((0 : Nat) : Int)), some (0, 0, 1), some (0, 0, bI w), some (0, 0, (i : Int)), o7] [] τ := fun c => by
        rw [if_neg c] at hr
        rw [if_neg (fun z => c (Or.inl z)), if_neg (fun z => c (Or.inr z))] at hL
        rw [hr, hL] at h
        exact ex1 τ w _ o7 (fun τ' M' P' => h.2 rfl τ' (ev_tr M (add M')) (E1.M M' (by decide) (by decide)) ((mk_at M' (k := 65) (j := 4) (by decide)).trans f1) (pk_tr hp P'))
      have g84 : (tw e p1 = 8 ∨ tw e p1 = 7) → ∀ (τ1 : ab_SG) (a7 b0 : Int) (w2 : Bool) (L2 T : sl_T), fw_op 9 (bI w) b0 = bI w2 → ab_okM sN_M σ τ1 → eD τ1 e p1 → τ1 65 4 = (o1 : Int) → pk σ τ1 L2 → ((fw_c a7 = 0 ∧ T = []) ∨ (fw_c a7 ≠ 0 ∧ T = [(1, 0)])) → sl_cd (sn_one A e 0) (sl_one A e 0) e o p = L2 ++ (sl_one A e 0 o1 (tn e p1) ++ (T ++ sl_lp (sn_one A e 0) (sl_one A e 0) e g w2 (sn_one A e 0 o1 (tn e p1)).2.2.1 (sn_one A e 0 o1 (tn e p1)).2.2.2)) → G 84 [some (2, 65, 0), some (2, 1, 0), some (2, 3, 0), some (0, 0, 9 - ((0 : Nat) : Int)), some (0, 0, 1), some (0, 0, bI w), some (0, 0, (i : Int)), some (0, 0, a7)] [(0, 0, b0), (0, 0, bI w)] τ1 := by
        intro c τ1 a7 b0 w2 L2 T hb M1 E2 f2 hp2 hT hL2
        refine fs_seCond0_84 hG ⟨rfl, E2.st.1, fun τ2 N2 S2 => fs_seCond0_91 hG ?_⟩
        rw [hb]
        have E3 := E2.st.2 τ2 N2 S2
        have M2 : ab_okM sN_M σ τ2 := ev_tr M1 (ev_up N2 (by decide))
        have p2 : pk σ τ2 L2 := pk_r hp2 (pk_k N2 (by decide))
        rw [if_pos c] at hr
        refine ⟨A, e, tn e p1, o1, rfl, ev_NC M2 (by decide +kernel) hN, E3, ⟨(mk_row N2 (k := 65) (by decide) 4).trans f2, h2⟩, fun q σ' M3 a b => ?_, fun q σ' M3 E4 f4 p4 => ?_⟩
        · rw [if_pos q] at hr
          rw [hr] at h
          have k : ∀ τ' : ab_SG, ab_okM se_M σ' τ' → K (some (0, 0, 0)) τ' := fun τ' M' => h.1 q τ' (ev_tr (ev_tr M2 M3) (add M')) ((mk_row M' (k := 1) (by decide) 9).trans a) ((mk_row M' (k := 1) (by decide) 10).trans b)
          exact fs_seCond0_98 hG ⟨fun _ => fs_seCond0_111 hG (ex0 σ' _ _ _ k), fun _ => ⟨_, _, rfl, fun τ' M' _ => fs_seCond0_111 hG (ex0 τ' _ _ _ (fun τ'' M'' => k τ'' (ev_tr M' M'')))⟩⟩
        · rw [if_neg (fun z => z q)] at hr
          have gr := og o1 (tn e p1) h2 q
          have p5 : pk σ σ' (L2 ++ sl_one A e 0 o1 (tn e p1)) := pk_tr p2 p4
          have nx : ∀ τ' : ab_SG, ab_okM sN_M σ τ' → eD τ' e (sn_one A e 0 o1 (tn e p1)).2.2.2 → τ' 65 4 = ((sn_one A e 0 o1 (tn e p1)).2.2.1 : Int) → pk σ τ' (L2 ++ sl_one A e 0 o1 (tn e p1) ++ T) → G 111 [some (2, 65, 0), some (2, 1, 0), some (2, 3, 0), some (0, 0, 9 - ((0 : Nat) : Int)), some (0, 0, 1), some (0, 0, bI w2), some (0, 0, (i : Int)), some (0, 0, a7)] [] τ' := fun τ' M' E' f' p' => fs_seCond0_111 hG (by
            have g := ih (i + 1) _ _ τ' w2 _ (some (0, 0, a7)) (by omega) (by omega) gr.2 M' E' f' p' hr (by rw [hL2, List.append_assoc, List.append_assoc])
            rw [show ((i + 1 : Nat) : Int) = (i : Int) + 1 from rfl] at g
            exact g)
          rcases hT with ⟨z, eT⟩ | ⟨z, eT⟩
          · exact fs_seCond0_98 hG ⟨fun _ => nx σ' (ev_tr M2 M3) E4 f4 (by rw [eT, List.append_nil]; exact p5), fun y => absurd z y⟩
          · exact fs_seCond0_98 hG ⟨fun y => absurd y z, fun _ => ⟨_, _, rfl, fun τ' M' P' => nx τ' (ev_tr (ev_tr M2 M3) (add M')) (E4.M M' (by decide) (by decide)) ((mk_at M' (k := 65) (j := 4) (by decide)).trans f4) (by rw [eT]; exact pk_tr p5 (P' fw_c1 fw_c0))⟩⟩
      -- AND
      have ga : tw e p1 = 8 → G 47 [some (2, 65, 0), some (2, 1, 0), some (2, 3, 0), some (0, 0, 9 - ((0 : Nat) : Int)), some (0, 0, 1), some (0, 0, bI w), some (0, 0, (i : Int)), o7] [] τ := fun c8 => by
        rw [if_pos c8] at hL
        exact fs_seCond0_47 hG (iw τ 8 _ E1 (by decide) (by decide) (fun _ => fs_seCond0_54 hG ⟨fun _ => fs_seCond0_72 hG ⟨fun _ => g84 (Or.inl c8) τ 1 0 w L1 [(1, 0)] (bI_a w) M E1 f1 hp (Or.inr ⟨n1, rfl⟩) hL, u1⟩, u1⟩) (fun z => absurd c8 z))
      -- OR
      have gb : tw e p1 ≠ 8 → tw e p1 = 7 → ∀ τ1 : ab_SG, ab_okM sN_M σ τ1 → eD τ1 e p1 → τ1 65 4 = (o1 : Int) → pk σ τ1 (L1 ++ fl w) → G 72 [some (2, 65, 0), some (2, 1, 0), some (2, 3, 0), some (0, 0, 9 - ((0 : Nat) : Int)), some (0, 0, 1), some (0, 0, bI w), some (0, 0, (i : Int)), some (0, 0, 0)] [] τ1 := fun c8 c7 τ1 M1 E2 f2 hp2 => by
        rw [if_neg c8, if_pos c7] at hL
        exact fs_seCond0_72 hG ⟨u0, fun _ => g84 (Or.inr c7) τ1 0 1 true (L1 ++ fl w) [] (bI_o w) M1 E2 f2 hp2 (Or.inl ⟨fw_c0, rfl⟩) (by rw [List.append_assoc]; exact hL)⟩
      have go : tw e p1 ≠ 8 → tw e p1 = 7 → G 47 [some (2, 65, 0), some (2, 1, 0), some (2, 3, 0), some (0, 0, 9 - ((0 : Nat) : Int)), some (0, 0, 1), some (0, 0, bI w), some (0, 0, (i : Int)), o7] [] τ := fun c8 c7 =>
        fs_seCond0_47 hG (iw τ 8 _ E1 (by decide) (by decide) (fun z => absurd z c8) (fun _ => fs_seCond0_54 hG ⟨u0, fun _ => ⟨fun z => gb c8 c7 τ M E1 f1 (by rw [bI_0 z]; exact pk_tr hp (show pk τ τ (fl false) from pk_0 τ)), fun z => ⟨_, _, rfl, fun τ' M' P' => gb c8 c7 τ' (ev_tr M (add M')) (E1.M M' (by decide) (by decide)) ((mk_at M' (k := 65) (j := 4) (by decide)).trans f1) (by rw [bI_1 z]; exact pk_tr hp (P' c2 fw_c0))⟩⟩⟩))
      refine fs_seCond0_15 hG ⟨fun z => absurd z (by rw [c20, ci]; omega), fun _ => ⟨u1, fun _ => iw τ 8 _ E1 (by decide) (by decide) (fun c => fs_seCond0_34 hG ⟨fun _ => ga c, u1⟩) (fun c8 => fs_seCond0_34 hG ⟨u0, fun _ => iw τ 7 _ E1 (by decide) (by decide) (fun c => fs_seCond0_44 hG ⟨u1, fun _ => go c8 c⟩) (fun c7 => fs_seCond0_44 hG ⟨fun _ => stop (fun z => z.elim c8 c7), u0⟩)⟩)⟩⟩
  exact fs_seCond0_0 hG ⟨A, e, p, o, rfl, hN, E, ⟨h4, ho⟩, fun q σ' M a b => fs_seCond0_7 hG (ex0 σ' 0 0 none (fun τ' M' => by
    have en : sn_cd (sn_one A e 0) e o p = sn_one A e 0 o p := if_pos q
    rw [en] at h
    exact h.1 q τ' (ev_tr M (add M')) ((mk_row M' (k := 1) (by decide) 9).trans a) ((mk_row M' (k := 1) (by decide) 10).trans b))), fun q σ' M E' f' p' => fs_seCond0_7 hG (by
    have gr := og o p ho q
    exact loop 20 0 _ _ σ' false _ none rfl (by omega) gr.2 M E' f' p' (if_neg (fun z => z q)) rfl)⟩)
end
abbrev fk_seOne1 : List fw_CR := [(41, 3, true, 5, 6, sp_seCond 0), (48, 1, true, 8, 0, sp_refuse), (52, 3, true, 5, 5, sp_seOne 0), (68, 2, true, 5, 1, sp_seAdd), (72, 0, true, 8, 2, sp_step), (75, 1, false, 0, 1, sp_seKind), (79, 1, true, 8, 3, sp_takeSign), (82, 3, true, 5, 3, sp_seNamed), (85, 2, true, 5, 3, sp_seMeas)]
abbrev st_seOne1 : fw_K → fw_KR → fw_K := fw_st vwCl nn_sh nn_kd fw_kv fw_wc (nn_KI5.map (fun x => x.1)) (nn_KJ5.map (fun x => x.1)) (nn_PF5.map (fun x => x.1)) (nn_PS5.map (fun x => x.1)) fk_seOne1 7 nn_dt175 7 1
theorem fs_seOne1_0 {G : fw_K} {R : fw_KR} (hG : fw_cls st_seOne1 R G) {d : Int} {σ : ab_SG} (h : sp_seKind [(2, 1, 0)] σ (fun rv σ2 => G 4 [some (2, 65, 0), some (2, 1, 0), some (2, 3, 0), some (0, 0, d), none, none, none] (rv.toList ++ []) σ2)) : G 0 [some (2, 65, 0), some (2, 1, 0), some (2, 3, 0), some (0, 0, d), none, none, none] [] σ := fw_on hG [4, 20, 38, 39, 54, 59, 74, 88, 97, 120, 128, 146, 156] 200 h
theorem fs_seOne1_4 {G : fw_K} {R : fw_KR} (hG : fw_cls st_seOne1 R G) {a3 b0 : Int} {o4 o6 : Option ab_AV} {σ : ab_SG} (h : (fw_c (σ 1 5) ≠ fw_c 40 → G 20 [some (2, 65, 0), some (2, 1, 0), some (2, 3, 0), some (0, 0, a3), some (0, 0, b0), none, o6] [(0, 0, 0)] σ) ∧ (fw_c (σ 1 5) = fw_c 40 → G 20 [some (2, 65, 0), some (2, 1, 0), some (2, 3, 0), some (0, 0, a3), some (0, 0, b0), none, o6] [(0, 0, 1)] σ)) : G 4 [some (2, 65, 0), some (2, 1, 0), some (2, 3, 0), some (0, 0, a3), o4, none, o6] [(0, 0, b0)] σ := fw_on hG [4, 20, 38, 39, 54, 59, 74, 88, 97, 120, 128, 146, 156] 200 h
theorem fs_seOne1_20 {G : fw_K} {R : fw_KR} (hG : fw_cls st_seOne1 R G) {a3 a4 b0 : Int} {o6 : Option ab_AV} {σ : ab_SG} (h : (fw_c a4 ≠ fw_c (-1) → G 39 [some (2, 65, 0), some (2, 1, 0), some (2, 3, 0), some (0, 0, a3), some (0, 0, a4), some (0, 0, b0), o6] [] σ) ∧ (fw_c a4 = fw_c (-1) → (fw_c b0 ≠ 0 → G 39 [some (2, 65, 0), some (2, 1, 0), some (2, 3, 0), some (0, 0, a3), some (0, 0, a4), some (0, 0, b0), o6] [] σ) ∧ (fw_c b0 = 0 → sp_refuse [(2, 1, 0), (0, 0, 1)] σ (fun rv σ2 => G 38 [some (2, 65, 0), some (2, 1, 0), some (2, 3, 0), some (0, 0, a3), some (0, 0, a4), some (0, 0, b0), o6] (rv.toList ++ []) σ2)))) : G 20 [some (2, 65, 0), some (2, 1, 0), some (2, 3, 0), some (0, 0, a3), some (0, 0, a4), none, o6] [(0, 0, b0)] σ := fw_on hG [4, 20, 38, 39, 54, 59, 74, 88, 97, 120, 128, 146, 156] 200 h
theorem fs_seOne1_39 {G : fw_K} {R : fw_KR} (hG : fw_cls st_seOne1 R G) {a3 a4 a5 : Int} {o6 : Option ab_AV} {σ : ab_SG} (h : (fw_c 20 ≤ fw_c (σ 65 4) → G 54 [some (2, 65, 0), some (2, 1, 0), some (2, 3, 0), some (0, 0, a3), some (0, 0, a4), some (0, 0, a5), o6] [] σ) ∧ (fw_c (σ 65 4) < fw_c 20 → (fw_c a3 ≤ fw_c 8 → sp_step [(2, 1, 0)] (ab_ups σ 65 4 (fw_c ((σ 65 4) + 1))) (fun rv σ2 => G 74 [some (2, 65, 0), some (2, 1, 0), some (2, 3, 0), some (0, 0, a3), some (0, 0, a4), some (0, 0, a5), o6] (rv.toList ++ []) σ2)) ∧ (fw_c 8 < fw_c a3 → G 54 [some (2, 65, 0), some (2, 1, 0), some (2, 3, 0), some (0, 0, a3), some (0, 0, a4), some (0, 0, a5), o6] [] σ))) : G 39 [some (2, 65, 0), some (2, 1, 0), some (2, 3, 0), some (0, 0, a3), some (0, 0, a4), some (0, 0, a5), o6] [] σ := fw_on hG [4, 20, 38, 39, 54, 59, 74, 88, 97, 120, 128, 146, 156] 200 h
theorem fs_seOne1_38 {G : fw_K} {R : fw_KR} (hG : fw_cls st_seOne1 R G) {a5 b0 : Int} {o1 o2 o3 o4 o6 : Option ab_AV} {σ : ab_SG} (h : (0 ≤ fw_c b0 ∧ fw_c b0 ≤ 1) ∧ R (some (0, 0, b0)) σ) : G 38 [some (2, 65, 0), o1, o2, o3, o4, some (0, 0, a5), o6] [(0, 0, b0)] σ := fw_on hG [4, 20, 38, 39, 54, 59, 74, 88, 97, 120, 128, 146, 156] 200 h
theorem fs_seOne1_54 {G : fw_K} {R : fw_KR} (hG : fw_cls st_seOne1 R G) {a5 : Int} {o2 o3 o4 o6 : Option ab_AV} {σ : ab_SG} (h : sp_refuse [(2, 1, 0), (0, 0, 4)] σ (fun rv σ2 => G 59 [some (2, 65, 0), some (2, 1, 0), o2, o3, o4, some (0, 0, a5), o6] (rv.toList ++ []) σ2)) : G 54 [some (2, 65, 0), some (2, 1, 0), o2, o3, o4, some (0, 0, a5), o6] [] σ := fw_on hG [4, 20, 38, 39, 54, 59, 74, 88, 97, 120, 128, 146, 156] 200 h
theorem fs_seOne1_74 {G : fw_K} {R : fw_KR} (hG : fw_cls st_seOne1 R G) {a3 a4 a5 : Int} {o6 : Option ab_AV} {σ : ab_SG} (h : (fw_c a5 = 0 → (fw_c a4 ≠ 0 → (fw_c 6 ≤ fw_c a4 → sp_seMeas [(2, 65, 0), (2, 1, 0), (0, 0, a4)] σ (fun rv σ2 => G 156 [some (2, 65, 0), some (2, 1, 0), some (2, 3, 0), some (0, 0, a3), some (0, 0, a4), some (0, 0, a5), o6] (rv.toList ++ []) σ2)) ∧ (fw_c a4 < fw_c 6 → sp_seNamed [(2, 65, 0), (2, 1, 0), (2, 3, 0), (0, 0, a4)] σ (fun rv σ2 => G 146 [some (2, 65, 0), some (2, 1, 0), some (2, 3, 0), some (0, 0, a3), some (0, 0, a4), some (0, 0, a5), o6] (rv.toList ++ []) σ2))) ∧ (fw_c a4 = 0 → sp_seOne 0 [(2, 65, 0), (2, 1, 0), (2, 3, 0), (0, 0, a3 + 1)] σ (fun rv σ2 => G 120 [some (2, 65, 0), some (2, 1, 0), some (2, 3, 0), some (0, 0, a3), some (0, 0, a4), some (0, 0, a5), o6] (rv.toList ++ []) σ2))) ∧ (fw_c a5 ≠ 0 → sp_seCond 0 [(2, 65, 0), (2, 1, 0), (2, 3, 0), (0, 0, a3 + 1)] σ (fun rv σ2 => G 88 [some (2, 65, 0), some (2, 1, 0), some (2, 3, 0), some (0, 0, a3), some (0, 0, a4), some (0, 0, a5), o6] (rv.toList ++ []) σ2))) : G 74 [some (2, 65, 0), some (2, 1, 0), some (2, 3, 0), some (0, 0, a3), some (0, 0, a4), some (0, 0, a5), o6] [] σ := fw_on hG [4, 20, 38, 39, 54, 59, 74, 88, 97, 120, 128, 146, 156] 200 h
theorem fs_seOne1_59 {G : fw_K} {R : fw_KR} (hG : fw_cls st_seOne1 R G) {a5 b0 : Int} {o1 o2 o3 o4 o6 : Option ab_AV} {σ : ab_SG} (h : (0 ≤ fw_c b0 ∧ fw_c b0 ≤ 1) ∧ R (some (0, 0, b0)) σ) : G 59 [some (2, 65, 0), o1, o2, o3, o4, some (0, 0, a5), o6] [(0, 0, b0)] σ := fw_on hG [4, 20, 38, 39, 54, 59, 74, 88, 97, 120, 128, 146, 156] 200 h
theorem fs_seOne1_156 {G : fw_K} {R : fw_KR} (hG : fw_cls st_seOne1 R G) {a5 b0 : Int} {o1 o2 o3 o4 o6 : Option ab_AV} {σ : ab_SG} (h : (0 ≤ fw_c b0 ∧ fw_c b0 ≤ 1) ∧ R (some (0, 0, b0)) σ) : G 156 [some (2, 65, 0), o1, o2, o3, o4, some (0, 0, a5), o6] [(0, 0, b0)] σ := fw_on hG [4, 20, 38, 39, 54, 59, 74, 88, 97, 120, 128, 146, 156] 200 h
theorem fs_seOne1_146 {G : fw_K} {R : fw_KR} (hG : fw_cls st_seOne1 R G) {a5 b0 : Int} {o1 o2 o3 o4 o6 : Option ab_AV} {σ : ab_SG} (h : G 156 [some (2, 65, 0), o1, o2, o3, o4, some (0, 0, a5), o6] [(0, 0, b0)] σ) : G 146 [some (2, 65, 0), o1, o2, o3, o4, some (0, 0, a5), o6] [(0, 0, b0)] σ := fw_on hG [4, 20, 38, 39, 54, 59, 74, 88, 97, 120, 128, 146, 156] 200 h
theorem fs_seOne1_120 {G : fw_K} {R : fw_KR} (hG : fw_cls st_seOne1 R G) {a5 b0 : Int} {o1 o2 o3 o4 o6 : Option ab_AV} {σ : ab_SG} (h : sp_seAdd [(2, 65, 0), (0, 0, 0), (0, 0, 0)] σ (fun rv σ2 => G 128 [some (2, 65, 0), o1, o2, o3, o4, some (0, 0, a5), some (0, 0, b0)] (rv.toList ++ []) σ2)) : G 120 [some (2, 65, 0), o1, o2, o3, o4, some (0, 0, a5), o6] [(0, 0, b0)] σ := fw_on hG [4, 20, 38, 39, 54, 59, 74, 88, 97, 120, 128, 146, 156] 200 h
theorem fs_seOne1_88 {G : fw_K} {R : fw_KR} (hG : fw_cls st_seOne1 R G) {a5 b0 : Int} {o2 o3 o4 o6 : Option ab_AV} {σ : ab_SG} (h : (fw_c b0 = 0 → (0 ≤ fw_c 0 ∧ fw_c 0 ≤ 1) ∧ R (some (0, 0, 0)) σ) ∧ (fw_c b0 ≠ 0 → sp_takeSign [(2, 1, 0), (0, 0, 41)] σ (fun rv σ2 => G 97 [some (2, 65, 0), some (2, 1, 0), o2, o3, o4, some (0, 0, a5), o6] (rv.toList ++ []) σ2))) : G 88 [some (2, 65, 0), some (2, 1, 0), o2, o3, o4, some (0, 0, a5), o6] [(0, 0, b0)] σ := fw_on hG [4, 20, 38, 39, 54, 59, 74, 88, 97, 120, 128, 146, 156] 200 h
theorem fs_seOne1_128 {G : fw_K} {R : fw_KR} (hG : fw_cls st_seOne1 R G) {a5 a6 : Int} {o1 o2 o3 o4 : Option ab_AV} {σ : ab_SG} (h : (0 ≤ fw_c a6 ∧ fw_c a6 ≤ 1) ∧ R (some (0, 0, a6)) σ) : G 128 [some (2, 65, 0), o1, o2, o3, o4, some (0, 0, a5), some (0, 0, a6)] [] σ := fw_on hG [4, 20, 38, 39, 54, 59, 74, 88, 97, 120, 128, 146, 156] 200 h
theorem fs_seOne1_97 {G : fw_K} {R : fw_KR} (hG : fw_cls st_seOne1 R G) {a5 b0 : Int} {o1 o2 o3 o4 o6 : Option ab_AV} {σ : ab_SG} (h : (fw_c b0 = 0 → (0 ≤ fw_c 0 ∧ fw_c 0 ≤ 1) ∧ R (some (0, 0, 0)) σ) ∧ (fw_c b0 ≠ 0 → (0 ≤ fw_c 1 ∧ fw_c 1 ≤ 1) ∧ R (some (0, 0, 1)) σ)) : G 97 [some (2, 65, 0), o1, o2, o3, o4, some (0, 0, a5), o6] [(0, 0, b0)] σ := fw_on hG [4, 20, 38, 39, 54, 59, 74, 88, 97, 120, 128, 146, 156] 200 h
abbrev fk_seCond1 : List fw_CR := [(52, 3, true, 5, 7, sp_seOne 1), (61, 1, true, 8, 0, sp_isWord), (68, 2, true, 5, 1, sp_seAdd), (72, 0, true, 8, 2, sp_step)]
abbrev st_seCond1 : fw_K → fw_KR → fw_K := fw_st vwCl nn_sh nn_kd fw_kv fw_wc (nn_KI5.map (fun x => x.1)) (nn_KJ5.map (fun x => x.1)) (nn_PF5.map (fun x => x.1)) (nn_PS5.map (fun x => x.1)) fk_seCond1 8 nn_dt174 8 1
theorem fs_seCond1_0 {G : fw_K} {R : fw_KR} (hG : fw_cls st_seCond1 R G) {d : Int} {σ : ab_SG} (h : sp_seOne 1 [(2, 65, 0), (2, 1, 0), (2, 3, 0), (0, 0, d)] σ (fun rv σ2 => G 7 [some (2, 65, 0), some (2, 1, 0), some (2, 3, 0), some (0, 0, d), none, none, none, none] (rv.toList ++ []) σ2)) : G 0 [some (2, 65, 0), some (2, 1, 0), some (2, 3, 0), some (0, 0, d), none, none, none, none] [] σ := fw_on hG [7, 15, 34, 44, 47, 54, 72, 84, 91, 98, 111, 117, 128] 200 h
theorem fs_seCond1_7 {G : fw_K} {R : fw_KR} (hG : fw_cls st_seCond1 R G) {a3 b0 : Int} {o5 o6 o7 : Option ab_AV} {σ : ab_SG} (h : G 15 [some (2, 65, 0), some (2, 1, 0), some (2, 3, 0), some (0, 0, a3), some (0, 0, b0), some (0, 0, 0), some (0, 0, 0), o7] [] σ) : G 7 [some (2, 65, 0), some (2, 1, 0), some (2, 3, 0), some (0, 0, a3), none, o5, o6, o7] [(0, 0, b0)] σ := fw_on hG [7, 15, 34, 44, 47, 54, 72, 84, 91, 98, 111, 117, 128] 200 h
theorem fs_seCond1_15 {G : fw_K} {R : fw_KR} (hG : fw_cls st_seCond1 R G) {a3 a4 a5 a6 : Int} {o7 : Option ab_AV} {σ : ab_SG} (h : (fw_c 20 ≤ fw_c a6 → G 117 [some (2, 65, 0), some (2, 1, 0), some (2, 3, 0), some (0, 0, a3), some (0, 0, a4), some (0, 0, a5), some (0, 0, a6), o7] [] σ) ∧ (fw_c a6 < fw_c 20 → (fw_c a4 = 0 → G 117 [some (2, 65, 0), some (2, 1, 0), some (2, 3, 0), some (0, 0, a3), some (0, 0, a4), some (0, 0, a5), some (0, 0, a6), o7] [] σ) ∧ (fw_c a4 ≠ 0 → sp_isWord [(2, 1, 0), (4, 0, 8)] σ (fun rv σ2 => G 34 [some (2, 65, 0), some (2, 1, 0), some (2, 3, 0), some (0, 0, a3), some (0, 0, a4), some (0, 0, a5), some (0, 0, a6), o7] (rv.toList ++ []) σ2)))) : G 15 [some (2, 65, 0), some (2, 1, 0), some (2, 3, 0), some (0, 0, a3), some (0, 0, a4), some (0, 0, a5), some (0, 0, a6), o7] [] σ := fw_on hG [7, 15, 34, 44, 47, 54, 72, 84, 91, 98, 111, 117, 128] 200 h
theorem fs_seCond1_117 {G : fw_K} {R : fw_KR} (hG : fw_cls st_seCond1 R G) {a4 a5 : Int} {o1 o2 o3 o6 o7 : Option ab_AV} {σ : ab_SG} (h : (fw_c a5 = 0 → G 128 [some (2, 65, 0), o1, o2, o3, some (0, 0, a4), some (0, 0, a5), o6, o7] [] σ) ∧ (fw_c a5 ≠ 0 → sp_seAdd [(2, 65, 0), (0, 0, 2), (0, 0, 0)] σ (fun rv σ2 => G 128 [some (2, 65, 0), o1, o2, o3, some (0, 0, a4), some (0, 0, a5), o6, o7] (rv.toList ++ []) σ2))) : G 117 [some (2, 65, 0), o1, o2, o3, some (0, 0, a4), some (0, 0, a5), o6, o7] [] σ := fw_on hG [7, 15, 34, 44, 47, 54, 72, 84, 91, 98, 111, 117, 128] 200 h
theorem fs_seCond1_34 {G : fw_K} {R : fw_KR} (hG : fw_cls st_seCond1 R G) {a3 a4 a5 a6 b0 : Int} {o7 : Option ab_AV} {σ : ab_SG} (h : (fw_c b0 ≠ 0 → G 47 [some (2, 65, 0), some (2, 1, 0), some (2, 3, 0), some (0, 0, a3), some (0, 0, a4), some (0, 0, a5), some (0, 0, a6), o7] [] σ) ∧ (fw_c b0 = 0 → sp_isWord [(2, 1, 0), (4, 0, 7)] σ (fun rv σ2 => G 44 [some (2, 65, 0), some (2, 1, 0), some (2, 3, 0), some (0, 0, a3), some (0, 0, a4), some (0, 0, a5), some (0, 0, a6), o7] (rv.toList ++ []) σ2))) : G 34 [some (2, 65, 0), some (2, 1, 0), some (2, 3, 0), some (0, 0, a3), some (0, 0, a4), some (0, 0, a5), some (0, 0, a6), o7] [(0, 0, b0)] σ := fw_on hG [7, 15, 34, 44, 47, 54, 72, 84, 91, 98, 111, 117, 128] 200 h
theorem fs_seCond1_128 {G : fw_K} {R : fw_KR} (hG : fw_cls st_seCond1 R G) {a4 : Int} {o1 o2 o3 o5 o6 o7 : Option ab_AV} {σ : ab_SG} (h : (0 ≤ fw_c a4 ∧ fw_c a4 ≤ 1) ∧ R (some (0, 0, a4)) σ) : G 128 [some (2, 65, 0), o1, o2, o3, some (0, 0, a4), o5, o6, o7] [] σ := fw_on hG [7, 15, 34, 44, 47, 54, 72, 84, 91, 98, 111, 117, 128] 200 h
theorem fs_seCond1_47 {G : fw_K} {R : fw_KR} (hG : fw_cls st_seCond1 R G) {a3 a4 a5 a6 : Int} {o7 : Option ab_AV} {σ : ab_SG} (h : sp_isWord [(2, 1, 0), (4, 0, 8)] σ (fun rv σ2 => G 54 [some (2, 65, 0), some (2, 1, 0), some (2, 3, 0), some (0, 0, a3), some (0, 0, a4), some (0, 0, a5), some (0, 0, a6), o7] (rv.toList ++ []) σ2)) : G 47 [some (2, 65, 0), some (2, 1, 0), some (2, 3, 0), some (0, 0, a3), some (0, 0, a4), some (0, 0, a5), some (0, 0, a6), o7] [] σ := fw_on hG [7, 15, 34, 44, 47, 54, 72, 84, 91, 98, 111, 117, 128] 200 h
theorem fs_seCond1_44 {G : fw_K} {R : fw_KR} (hG : fw_cls st_seCond1 R G) {a3 a4 a5 a6 b0 : Int} {o7 : Option ab_AV} {σ : ab_SG} (h : (fw_c b0 = 0 → G 117 [some (2, 65, 0), some (2, 1, 0), some (2, 3, 0), some (0, 0, a3), some (0, 0, a4), some (0, 0, a5), some (0, 0, a6), o7] [] σ) ∧ (fw_c b0 ≠ 0 → G 47 [some (2, 65, 0), some (2, 1, 0), some (2, 3, 0), some (0, 0, a3), some (0, 0, a4), some (0, 0, a5), some (0, 0, a6), o7] [] σ)) : G 44 [some (2, 65, 0), some (2, 1, 0), some (2, 3, 0), some (0, 0, a3), some (0, 0, a4), some (0, 0, a5), some (0, 0, a6), o7] [(0, 0, b0)] σ := fw_on hG [7, 15, 34, 44, 47, 54, 72, 84, 91, 98, 111, 117, 128] 200 h
theorem fs_seCond1_54 {G : fw_K} {R : fw_KR} (hG : fw_cls st_seCond1 R G) {a3 a4 a5 a6 b0 : Int} {o7 : Option ab_AV} {σ : ab_SG} (h : (fw_c b0 ≠ 0 → G 72 [some (2, 65, 0), some (2, 1, 0), some (2, 3, 0), some (0, 0, a3), some (0, 0, a4), some (0, 0, a5), some (0, 0, a6), some (0, 0, b0)] [] σ) ∧ (fw_c b0 = 0 → (fw_c a5 = 0 → G 72 [some (2, 65, 0), some (2, 1, 0), some (2, 3, 0), some (0, 0, a3), some (0, 0, a4), some (0, 0, a5), some (0, 0, a6), some (0, 0, b0)] [] σ) ∧ (fw_c a5 ≠ 0 → sp_seAdd [(2, 65, 0), (0, 0, 2), (0, 0, 0)] σ (fun rv σ2 => G 72 [some (2, 65, 0), some (2, 1, 0), some (2, 3, 0), some (0, 0, a3), some (0, 0, a4), some (0, 0, a5), some (0, 0, a6), some (0, 0, b0)] (rv.toList ++ []) σ2)))) : G 54 [some (2, 65, 0), some (2, 1, 0), some (2, 3, 0), some (0, 0, a3), some (0, 0, a4), some (0, 0, a5), some (0, 0, a6), o7] [(0, 0, b0)] σ := fw_on hG [7, 15, 34, 44, 47, 54, 72, 84, 91, 98, 111, 117, 128] 200 h
theorem fs_seCond1_72 {G : fw_K} {R : fw_KR} (hG : fw_cls st_seCond1 R G) {a3 a4 a5 a6 a7 : Int} {σ : ab_SG} (h : (fw_c a7 ≠ 0 → G 84 [some (2, 65, 0), some (2, 1, 0), some (2, 3, 0), some (0, 0, a3), some (0, 0, a4), some (0, 0, a5), some (0, 0, a6), some (0, 0, a7)] [(0, 0, 0), (0, 0, a5)] σ) ∧ (fw_c a7 = 0 → G 84 [some (2, 65, 0), some (2, 1, 0), some (2, 3, 0), some (0, 0, a3), some (0, 0, a4), some (0, 0, a5), some (0, 0, a6), some (0, 0, a7)] [(0, 0, 1), (0, 0, a5)] σ)) : G 72 [some (2, 65, 0), some (2, 1, 0), some (2, 3, 0), some (0, 0, a3), some (0, 0, a4), some (0, 0, a5), some (0, 0, a6), some (0, 0, a7)] [] σ := fw_on hG [7, 15, 34, 44, 47, 54, 72, 84, 91, 98, 111, 117, 128] 200 h
theorem fs_seCond1_84 {G : fw_K} {R : fw_KR} (hG : fw_cls st_seCond1 R G) {a3 a4 a6 a7 b0 b1 : Int} {o5 : Option ab_AV} {σ : ab_SG} (h : sp_step [(2, 1, 0)] σ (fun rv σ2 => G 91 [some (2, 65, 0), some (2, 1, 0), some (2, 3, 0), some (0, 0, a3), some (0, 0, a4), some (0, 0, fw_op 9 b1 b0), some (0, 0, a6), some (0, 0, a7)] (rv.toList ++ []) σ2)) : G 84 [some (2, 65, 0), some (2, 1, 0), some (2, 3, 0), some (0, 0, a3), some (0, 0, a4), o5, some (0, 0, a6), some (0, 0, a7)] [(0, 0, b0), (0, 0, b1)] σ := fw_on hG [7, 15, 34, 44, 47, 54, 72, 84, 91, 98, 111, 117, 128] 200 h
theorem fs_seCond1_91 {G : fw_K} {R : fw_KR} (hG : fw_cls st_seCond1 R G) {a3 a4 a5 a6 a7 : Int} {σ : ab_SG} (h : sp_seOne 1 [(2, 65, 0), (2, 1, 0), (2, 3, 0), (0, 0, a3)] σ (fun rv σ2 => G 98 [some (2, 65, 0), some (2, 1, 0), some (2, 3, 0), some (0, 0, a3), some (0, 0, a4), some (0, 0, a5), some (0, 0, a6), some (0, 0, a7)] (rv.toList ++ []) σ2)) : G 91 [some (2, 65, 0), some (2, 1, 0), some (2, 3, 0), some (0, 0, a3), some (0, 0, a4), some (0, 0, a5), some (0, 0, a6), some (0, 0, a7)] [] σ := fw_on hG [7, 15, 34, 44, 47, 54, 72, 84, 91, 98, 111, 117, 128] 200 h
theorem fs_seCond1_98 {G : fw_K} {R : fw_KR} (hG : fw_cls st_seCond1 R G) {a3 a4 a5 a6 a7 b0 : Int} {σ : ab_SG} (h : (fw_c a7 = 0 → G 111 [some (2, 65, 0), some (2, 1, 0), some (2, 3, 0), some (0, 0, a3), some (0, 0, b0), some (0, 0, a5), some (0, 0, a6), some (0, 0, a7)] [] σ) ∧ (fw_c a7 ≠ 0 → sp_seAdd [(2, 65, 0), (0, 0, 1), (0, 0, 0)] σ (fun rv σ2 => G 111 [some (2, 65, 0), some (2, 1, 0), some (2, 3, 0), some (0, 0, a3), some (0, 0, b0), some (0, 0, a5), some (0, 0, a6), some (0, 0, a7)] (rv.toList ++ []) σ2))) : G 98 [some (2, 65, 0), some (2, 1, 0), some (2, 3, 0), some (0, 0, a3), some (0, 0, a4), some (0, 0, a5), some (0, 0, a6), some (0, 0, a7)] [(0, 0, b0)] σ := fw_on hG [7, 15, 34, 44, 47, 54, 72, 84, 91, 98, 111, 117, 128] 200 h
theorem fs_seCond1_111 {G : fw_K} {R : fw_KR} (hG : fw_cls st_seCond1 R G) {a3 a4 a5 a6 : Int} {o7 : Option ab_AV} {σ : ab_SG} (h : G 15 [some (2, 65, 0), some (2, 1, 0), some (2, 3, 0), some (0, 0, a3), some (0, 0, a4), some (0, 0, a5), some (0, 0, a6 + 1), o7] [] σ) : G 111 [some (2, 65, 0), some (2, 1, 0), some (2, 3, 0), some (0, 0, a3), some (0, 0, a4), some (0, 0, a5), some (0, 0, a6), o7] [] σ := fw_on hG [7, 15, 34, 44, 47, 54, 72, 84, 91, 98, 111, 117, 128] 200 h
section
variable {l : Launch} {cy : Nat → ClassId} {ad wr cr : Nat → Nat} {D : va_G}
theorem fm_seOne1 (hinj : nn_inj ad) : fw_H l cy ad wr cr D 175 7 (sp_seOne 1) := fw_mk hinj (⟨"NameNotes$Sentence", "readOne", "(LNameNotes$Tape;LNameNotes$Studio;I)Z"⟩, prog_7_method_6_code, 7, (Option.some Jvm.ClassFile.FieldType.boolean), 3, true, 1) rfl rfl nn_KI5_ok nn_KJ5_ok nn_PF5_ok nn_PS5_ok (by decide +kernel) rfl rfl (List.forall_mem_cons.mpr ⟨fw_row nn_PM5_ok (x := 41) (k := 0) (mn := 174) (np := 3) (ob := true) (ci := 5) (⟨"NameNotes$Sentence", "readCond", "(LNameNotes$Tape;LNameNotes$Studio;I)Z"⟩, prog_7_method_5_code, 8, (Option.some Jvm.ClassFile.FieldType.boolean), 3, true, 1) rfl (by decide +kernel) rfl rfl (by decide) (fun _ => ⟨_, _, rfl⟩) (fm_seCond0 hinj), (List.forall_mem_cons.mpr ⟨fw_row nn_PM5_ok (x := 48) (k := 0) (mn := 22) (np := 1) (ob := true) (ci := 8) (⟨"NameNotes$Tape", "refuse", "(I)Z"⟩, prog_10_method_14_code, 2, (Option.some Jvm.ClassFile.FieldType.boolean), 1, true, 1) rfl (by decide +kernel) rfl rfl (by decide) (fun _ => ⟨_, _, rfl⟩) (fm_refuse hinj), (List.forall_mem_cons.mpr ⟨fw_row nn_PM5_ok (x := 52) (k := 0) (mn := 175) (np := 3) (ob := true) (ci := 5) (⟨"NameNotes$Sentence", "readOne", "(LNameNotes$Tape;LNameNotes$Studio;I)Z"⟩, prog_7_method_6_code, 7, (Option.some Jvm.ClassFile.FieldType.boolean), 3, true, 1) rfl (by decide +kernel) rfl rfl (by decide) (fun _ => ⟨_, _, rfl⟩) (fm_seOne0 hinj), (List.forall_mem_cons.mpr ⟨fw_row nn_PM5_ok (x := 68) (k := 0) (mn := 177) (np := 2) (ob := true) (ci := 5) (⟨"NameNotes$Sentence", "addStep", "(II)V"⟩, prog_7_method_10_code, 3, (Option.none : Option Jvm.ClassFile.FieldType), 2, true, 4) rfl (by decide +kernel) rfl rfl (by decide) (fun _ => ⟨_, _, rfl⟩) (fm_seAdd hinj), (List.forall_mem_cons.mpr ⟨fw_row nn_PM5_ok (x := 72) (k := 0) (mn := 10) (np := 0) (ob := true) (ci := 8) (⟨"NameNotes$Tape", "step", "()V"⟩, prog_10_method_5_code, 2, (Option.none : Option Jvm.ClassFile.FieldType), 0, true, 4) rfl (by decide +kernel) rfl rfl (by decide) (fun _ => ⟨_, _, rfl⟩) (fm_step hinj), (List.forall_mem_cons.mpr ⟨fw_row nn_PM5_ok (x := 75) (k := 0) (mn := 176) (np := 1) (ob := false) (ci := 0) (⟨"NameNotes$Sentence", "kindOf", "(LNameNotes$Tape;)I"⟩, prog_7_method_9_code, 1, (Option.some Jvm.ClassFile.FieldType.int), 1, false, 0) rfl (by decide +kernel) rfl rfl (by decide) (fun q => by cases q) (fm_seKind hinj), (List.forall_mem_cons.mpr ⟨fw_row nn_PM5_ok (x := 79) (k := 0) (mn := 40) (np := 1) (ob := true) (ci := 8) (⟨"NameNotes$Tape", "takeSign", "(I)Z"⟩, prog_10_method_13_code, 2, (Option.some Jvm.ClassFile.FieldType.boolean), 1, true, 1) rfl (by decide +kernel) rfl rfl (by decide) (fun _ => ⟨_, _, rfl⟩) (fm_takeSign hinj), (List.forall_mem_cons.mpr ⟨fw_row nn_PM5_ok (x := 82) (k := 0) (mn := 178) (np := 3) (ob := true) (ci := 5) (⟨"NameNotes$Sentence", "readNamed", "(LNameNotes$Tape;LNameNotes$Studio;I)Z"⟩, prog_7_method_7_code, 5, (Option.some Jvm.ClassFile.FieldType.boolean), 3, true, 1) rfl (by decide +kernel) rfl rfl (by decide) (fun _ => ⟨_, _, rfl⟩) (fm_seNamed hinj), (List.forall_mem_cons.mpr ⟨fw_row nn_PM5_ok (x := 85) (k := 0) (mn := 179) (np := 2) (ob := true) (ci := 5) (⟨"NameNotes$Sentence", "readMeasured", "(LNameNotes$Tape;I)Z"⟩, prog_7_method_8_code, 4, (Option.some Jvm.ClassFile.FieldType.boolean), 2, true, 1) rfl (by decide +kernel) rfl rfl (by decide) (fun _ => ⟨_, _, rfl⟩) (fm_seMeas hinj), (fun _ h => absurd h List.not_mem_nil)⟩)⟩)⟩)⟩)⟩)⟩)⟩)⟩)⟩) (fun as σ K h => by
  obtain ⟨A, e, p, o, rfl, hN, E, ⟨h4, ho⟩, h⟩ := h
  have tk1 := (tk_can e p).1
  have m1 : fw_c (-1) = -1 := fw_s (by decide) (by decide)
  have c40 : fw_c 40 = 40 := fw_s (by decide) (by decide)
  have c20 : fw_c 20 = 20 := fw_s (by decide) (by decide)
  have c8 : fw_c 8 = 8 := fw_s (by decide) (by decide)
  have c6 : fw_c 6 = 6 := fw_s (by decide) (by decide)
  have cd : fw_c (9 - ((1 : Nat) : Int)) = 9 - ((1 : Nat) : Int) := fw_s (by decide) (by decide)
  have c4 : fw_c (σ 65 4) = (o : Int) := by rw [h4]; exact fw_s (by omega) (by omega)
  have sv := sk_in e p
  have csk : fw_c (sk_v e p) = sk_v e p := fw_s (by omega) (by omega)
  have n40 : (tk e p).1 = 40 → ¬ (9 ≤ tw e p ∧ tw e p ≤ 16) := fun z y => by
    have := tw_k (e := e) (p := p) (by omega)
    omega
  refine ⟨rfl, fun G hG => fs_seOne1_0 hG ⟨e, p, rfl, E, fs_seOne1_4 hG ?_⟩⟩
  rw [E.kind.2, c40]
  have four : sn_st e p → sn_one A e 1 o p = (4, ev_st e p, o, p) → ∀ a5 : Int, G 54 [some (2, 65, 0), some (2, 1, 0), some (2, 3, 0), some (0, 0, 9 - ((1 : Nat) : Int)), some (0, 0, sk_v e p), some (0, 0, a5), none] [] σ := fun y en a5 => by
    rw [en] at h
    exact fs_seOne1_54 hG ⟨4, rfl, E.rf (x := 4) (v := 0) (K := fun rv σ2 => G 59 [some (2, 65, 0), some (2, 1, 0), some (2, 3, 0), some (0, 0, 9 - ((1 : Nat) : Int)), some (0, 0, sk_v e p), some (0, 0, a5), none] (rv.toList ++ []) σ2) (by decide) (fun σ' a b c => fs_seOne1_59 hG ⟨fw_01, h.1 (show (4 : Int) ≠ 0 by decide) σ' (ev_up a (by decide)) b c⟩)⟩
  have go : sn_st e p → ∀ a5 : Int, ((a5 = 1 ∧ (tk e p).1 = 40) ∨ (a5 = 0 ∧ (tk e p).1 ≠ 40)) → G 39 [some (2, 65, 0), some (2, 1, 0), some (2, 3, 0), some (0, 0, 9 - ((1 : Nat) : Int)), some (0, 0, sk_v e p), some (0, 0, a5), none] [] σ := by
    intro y a5 h5
    refine fs_seOne1_39 hG ?_
    rw [c4, c20, c8, cd, h4]
    refine ⟨fun z => four y ?_ a5, fun z => ⟨fun _ => ⟨rfl, ?_⟩, fun z => absurd z (by decide)⟩⟩
    · rw [show sn_one A e 1 o p = _ from sn_one_s A e 0 o p, if_neg (fun w => w y), if_pos (by omega)]
    have en : sn_one A e 1 o p = _ := sn_one_s A e 0 o p
    rw [if_neg (fun w => w y), if_neg (by omega)] at en
    have ln : sl_one A e 1 o p = _ := sl_one_s A e 0 o p
    have co : fw_c ((o : Int) + 1) = ((o + 1 : Nat) : Int) := fw_s (by omega) (by omega)
    rw [co]
    have E1 : eD (ab_ups σ 65 4 ((o + 1 : Nat) : Int)) e p := E.M (M := [(65, 4)]) okM_one (by decide) (by decide)
    have M1 : ab_okM sN_M σ (ab_ups σ 65 4 ((o + 1 : Nat) : Int)) := fw_okM_ups (fw_okM_refl _ _) (by decide)
    have Q1 : ab_okM [(65, 4)] σ (ab_ups σ 65 4 ((o + 1 : Nat) : Int)) := okM_one
    have f1 : (ab_ups σ 65 4 ((o + 1 : Nat) : Int)) 65 4 = ((o + 1 : Nat) : Int) := ab_ups_eq
    generalize ab_ups σ 65 4 ((o + 1 : Nat) : Int) = σ1 at E1 M1 Q1 f1 ⊢
    refine ⟨E1.st.1, fun σ2 N2 S2 => fs_seOne1_74 hG ?_⟩
    have E2 := E1.st.2 σ2 N2 S2
    have M2 : ab_okM sN_M σ σ2 := ev_tr M1 (ev_up N2 (by decide))
    have p2 : pk σ σ2 [] := pk_l (pk_k (M := [(65, 4)]) Q1 (by decide)) (pk_k N2 (by decide))
    have f2 : σ2 65 4 = ((o + 1 : Nat) : Int) := (mk_row N2 (k := 65) (by decide) 4).trans f1
    have N2' : NC σ2 A := ev_NC M2 (by decide +kernel) hN
    rw [csk, c6]
    -- what comes back is told on
    have p156 : ∀ (r : sn_T) (L : sl_T), sn_one A e 1 o p = r → sl_one A e 1 o p = L → sl_post σ2 r L e (fun rv σ3 => G 156 [some (2, 65, 0), some (2, 1, 0), some (2, 3, 0), some (0, 0, 9 - ((1 : Nat) : Int)), some (0, 0, sk_v e p), some (0, 0, a5), none] (rv.toList ++ []) σ3) := by
      intro r L er el
      rw [er, el] at h
      exact ⟨fun q σ' M a b => fs_seOne1_156 hG ⟨fw_01, h.1 q σ' (ev_tr M2 M) a b⟩, fun q σ' M a b c => fs_seOne1_156 hG ⟨fw_11, h.2 q σ' (ev_tr M2 M) a b (pk_l p2 c)⟩⟩
    refine ⟨fun z5 => ?_, fun z5 => ?_⟩
    · have n4 : (tk e p).1 ≠ 40 := by
        rcases h5 with ⟨q, -⟩ | ⟨-, q⟩
        · rw [q] at z5
          exact absurd (fw_c1.symm.trans z5) (by decide)
        · exact q
      have y2 : 9 ≤ tw e p ∧ tw e p ≤ 16 := y.resolve_left n4
      rw [if_neg n4] at en ln
      refine ⟨fun z6 => ⟨fun z7 => ?_, fun z7 => ?_⟩, fun z6 => ?_⟩
      · rw [if_neg (by omega), if_neg (by omega), if_neg (by omega), if_neg (by omega)] at en ln
        exact ⟨e, tn e p, o + 1, _, rfl, ⟨by omega, by omega⟩, E2, f2, p156 _ _ en ln⟩
      · rw [if_neg (by omega)] at en ln
        have nmd : ∀ (r : sn_T) (L : sl_T), sn_one A e 1 o p = r → sl_one A e 1 o p = L → sl_post σ2 r L e (fun rv σ3 => G 146 [some (2, 65, 0), some (2, 1, 0), some (2, 3, 0), some (0, 0, 9 - ((1 : Nat) : Int)), some (0, 0, sk_v e p), some (0, 0, a5), none] (rv.toList ++ []) σ3) := fun r L er el => ⟨fun q σ' M a b => fs_seOne1_146 hG ((p156 r L er el).1 q σ' M a b), fun q σ' M a b c => fs_seOne1_146 hG ((p156 r L er el).2 q σ' M a b c)⟩
        refine ⟨A, e, tn e p, o + 1, _, rfl, N2', E2, f2, ?_⟩
        by_cases w1 : tw e p = 10
        · rw [if_pos w1] at en ln
          exact Or.inl ⟨by omega, nmd _ _ en ln⟩
        rw [if_neg w1] at en ln
        by_cases w2 : tw e p = 11
        · rw [if_pos w2] at en ln
          exact Or.inr (Or.inl ⟨by omega, nmd _ _ en ln⟩)
        rw [if_neg w2, if_pos (by omega)] at en ln
        exact Or.inr (Or.inr ⟨by omega, nmd _ _ en ln⟩)
      · rw [if_pos (by omega)] at en ln
        rw [en, ln] at h
        refine ⟨A, e, tn e p, o + 1, rfl, N2', E2, ⟨f2, by omega⟩, fun q σ' M a b => fs_seOne1_120 hG ⟨0, 0, rfl, fun σ4 M4 _ => fs_seOne1_128 hG ⟨fw_01, h.1 q σ4 (ev_tr (ev_tr M2 M) (ev_up M4 (by decide))) ((mk_row M4 (k := 1) (by decide) 9).trans a) ((mk_row M4 (k := 1) (by decide) 10).trans b)⟩⟩, fun q σ' M a b c => fs_seOne1_120 hG ⟨0, 0, rfl, fun σ4 M4 P4 => fs_seOne1_128 hG ⟨fw_11, h.2 q σ4 (ev_tr (ev_tr M2 M) (ev_up M4 (by decide))) (a.M M4 (by decide) (by decide)) ((mk_at M4 (k := 65) (j := 4) (by decide)).trans b) (pk_tr (pk_l p2 c) (P4 fw_c0 fw_c0))⟩⟩⟩
    · have n4 : (tk e p).1 = 40 := by
        rcases h5 with ⟨-, q⟩ | ⟨q, -⟩
        · exact q
        · rw [q] at z5
          exact absurd fw_c0 z5
      rw [if_pos n4] at en ln
      generalize hr : sn_cd (sn_one A e 0) e (o + 1) (tn e p) = r at en
      rw [en, ln] at h
      refine ⟨A, e, tn e p, o + 1, rfl, N2', E2, ⟨f2, by omega⟩, ?_⟩
      rw [hr]
      refine ⟨fun q σ' M a b => ?_, fun q σ' M E3 f3 p3 => ?_⟩
      · rw [show sn_br e r = r from if_pos q] at h
        exact fs_seOne1_88 hG ⟨fun _ => ⟨fw_01, h.1 q σ' (ev_tr M2 M) a b⟩, fun z => absurd fw_c0 z⟩
      · have M3 : ab_okM sN_M σ σ' := ev_tr M2 M
        refine fs_seOne1_88 hG ⟨fun z => absurd (fw_c1.symm.trans z) (by decide), fun _ => E3.sg (by decide) (fun w σ4 a b c => ?_) (fun w σ4 M4 E4 => ?_)⟩
        · have eb : sn_br e r = (1, ev_st e r.2.2.2, r.2.2.1, r.2.2.2) := (if_neg (fun z => z q)).trans (if_pos w)
          rw [eb] at h
          exact fs_seOne1_97 hG ⟨fun _ => ⟨fw_01, h.1 (show (1 : Int) ≠ 0 by decide) σ4 (ev_tr M3 (ev_up a (by decide))) b c⟩, fun z => absurd fw_c0 z⟩
        · have eb : sn_br e r = (0, 0, r.2.2.1, tn e r.2.2.2) := (if_neg (fun z => z q)).trans (if_neg (fun z => z w))
          rw [eb] at h
          exact fs_seOne1_97 hG ⟨fun z => absurd (fw_c1.symm.trans z) (by decide), fun _ => ⟨fw_11, h.2 rfl σ4 (ev_tr M3 (ev_up M4 (by decide))) E4 ((mk_row M4 (k := 65) (by decide) 4).trans f3) (pk_l p2 (pk_r p3 (pk_k M4 (by decide))))⟩⟩
  have no : ¬ sn_st e p → G 20 [some (2, 65, 0), some (2, 1, 0), some (2, 3, 0), some (0, 0, 9 - ((1 : Nat) : Int)), some (0, 0, sk_v e p), none, none] [(0, 0, 0)] σ := fun y => by
    have en : sn_one A e 1 o p = (1, ev_st e p, o, p) := (sn_one_s A e 0 o p).trans (if_pos y)
    rw [en] at h
    have ek : sk_v e p = -1 := by
      have : ¬ (9 ≤ tw e p ∧ tw e p ≤ 16) := fun z => y (Or.inr z)
      omega
    refine fs_seOne1_20 hG ⟨fun z => absurd (by rw [ek]) z, fun _ => ⟨fun z => absurd fw_c0 z, fun _ => ⟨1, rfl, E.rf (x := 1) (v := 0) (K := fun rv σ2 => G 38 [some (2, 65, 0), some (2, 1, 0), some (2, 3, 0), some (0, 0, 9 - ((1 : Nat) : Int)), some (0, 0, sk_v e p), some (0, 0, 0), none] (rv.toList ++ []) σ2) (by decide) (fun σ' a b c => fs_seOne1_38 hG ⟨fw_01, h.1 (show (1 : Int) ≠ 0 by decide) σ' (ev_up a (by decide)) b c⟩)⟩⟩⟩
  refine ⟨fun z => ?_, fun z => ?_⟩
  · by_cases y : sn_st e p
    · have y2 : 9 ≤ tw e p ∧ tw e p ≤ 16 := y.resolve_left z
      exact fs_seOne1_20 hG ⟨fun _ => go y 0 (Or.inr ⟨rfl, z⟩), fun u => absurd u (by rw [csk, m1]; omega)⟩
    · exact no y
  · have y : sn_st e p := Or.inl z
    have ek : sk_v e p = -1 := by
      have := n40 z
      omega
    exact fs_seOne1_20 hG ⟨fun u => absurd (by rw [ek]) u, fun _ => ⟨fun _ => go y 1 (Or.inl ⟨rfl, z⟩), fun u => absurd (fw_c1.symm.trans u) (by decide)⟩⟩)
theorem fm_seCond1 (hinj : nn_inj ad) : fw_H l cy ad wr cr D 174 8 (sp_seCond 1) := fw_mk hinj (⟨"NameNotes$Sentence", "readCond", "(LNameNotes$Tape;LNameNotes$Studio;I)Z"⟩, prog_7_method_5_code, 8, (Option.some Jvm.ClassFile.FieldType.boolean), 3, true, 1) rfl rfl nn_KI5_ok nn_KJ5_ok nn_PF5_ok nn_PS5_ok (by decide +kernel) rfl rfl (List.forall_mem_cons.mpr ⟨fw_row nn_PM5_ok (x := 52) (k := 0) (mn := 175) (np := 3) (ob := true) (ci := 5) (⟨"NameNotes$Sentence", "readOne", "(LNameNotes$Tape;LNameNotes$Studio;I)Z"⟩, prog_7_method_6_code, 7, (Option.some Jvm.ClassFile.FieldType.boolean), 3, true, 1) rfl (by decide +kernel) rfl rfl (by decide) (fun _ => ⟨_, _, rfl⟩) (fm_seOne1 hinj), (List.forall_mem_cons.mpr ⟨fw_row nn_PM5_ok (x := 61) (k := 0) (mn := 20) (np := 1) (ob := true) (ci := 8) (⟨"NameNotes$Tape", "isWord", "(LNameNotes$Word;)Z"⟩, prog_10_method_10_code, 2, (Option.some Jvm.ClassFile.FieldType.boolean), 1, true, 1) rfl (by decide +kernel) rfl rfl (by decide) (fun _ => ⟨_, _, rfl⟩) (fm_isWord hinj), (List.forall_mem_cons.mpr ⟨fw_row nn_PM5_ok (x := 68) (k := 0) (mn := 177) (np := 2) (ob := true) (ci := 5) (⟨"NameNotes$Sentence", "addStep", "(II)V"⟩, prog_7_method_10_code, 3, (Option.none : Option Jvm.ClassFile.FieldType), 2, true, 4) rfl (by decide +kernel) rfl rfl (by decide) (fun _ => ⟨_, _, rfl⟩) (fm_seAdd hinj), (List.forall_mem_cons.mpr ⟨fw_row nn_PM5_ok (x := 72) (k := 0) (mn := 10) (np := 0) (ob := true) (ci := 8) (⟨"NameNotes$Tape", "step", "()V"⟩, prog_10_method_5_code, 2, (Option.none : Option Jvm.ClassFile.FieldType), 0, true, 4) rfl (by decide +kernel) rfl rfl (by decide) (fun _ => ⟨_, _, rfl⟩) (fm_step hinj), (fun _ h => absurd h List.not_mem_nil)⟩)⟩)⟩)⟩) (fun as σ K h => by
  obtain ⟨A, e, p, o, rfl, hN, E, ⟨h4, ho⟩, h⟩ := h
  have c20 : fw_c 20 = 20 := fw_s (by decide) (by decide)
  have c2 : fw_c 2 = 2 := fw_s (by decide) (by decide)
  have og := sn_one_gr A e 1
  refine ⟨rfl, fun G hG => ?_⟩
  have ex0 : ∀ (τ : ab_SG) (a5 a6 : Int) (o7 : Option ab_AV), (∀ τ' : ab_SG, ab_okM se_M τ τ' → K (some (0, 0, 0)) τ') → G 15 [some (2, 65, 0), some (2, 1, 0), some (2, 3, 0), some (0, 0, 9 - ((1 : Nat) : Int)), some (0, 0, 0), some (0, 0, a5), some (0, 0, a6), o7] [] τ := by
    intro τ a5 a6 o7 k
    have g : G 117 [some (2, 65, 0), some (2, 1, 0), some (2, 3, 0), some (0, 0, 9 - ((1 : Nat) : Int)), some (0, 0, 0), some (0, 0, a5), some (0, 0, a6), o7] [] τ := fs_seCond1_117 hG ⟨fun _ => fs_seCond1_128 hG ⟨fw_01, k τ (fw_okM_refl _ _)⟩, fun _ => ⟨_, _, rfl, fun τ' M _ => fs_seCond1_128 hG ⟨fw_01, k τ' M⟩⟩⟩
    exact fs_seCond1_15 hG ⟨fun _ => g, fun _ => ⟨fun _ => g, fun z => absurd fw_c0 z⟩⟩
  have ex1 : ∀ (τ : ab_SG) (w : Bool) (a6 : Int) (o7 : Option ab_AV), (∀ τ' : ab_SG, ab_okM se_M τ τ' → pk τ τ' (fl w) → K (some (0, 0, 1)) τ') → G 117 [some (2, 65, 0), some (2, 1, 0), some (2, 3, 0), some (0, 0, 9 - ((1 : Nat) : Int)), some (0, 0, 1), some (0, 0, bI w), some (0, 0, a6), o7] [] τ := fun τ w a6 o7 k =>
    fs_seCond1_117 hG ⟨fun z => fs_seCond1_128 hG ⟨fw_11, k τ (fw_okM_refl _ _) (by rw [bI_0 z]; exact pk_0 τ)⟩, fun z => ⟨_, _, rfl, fun τ' M P => fs_seCond1_128 hG ⟨fw_11, k τ' M (by rw [bI_1 z]; exact P c2 fw_c0)⟩⟩⟩
  have add : ∀ {τ τ' : ab_SG}, ab_okM se_M τ τ' → ab_okM sN_M τ τ' := fun M => ev_up M (by decide)
  have loop : ∀ (g i o1 p1 : Nat) (τ : ab_SG) (w : Bool) (L1 : sl_T) (o7 : Option ab_AV), i + g = 20 → i + 1 ≤ o1 → o1 ≤ 20 → ab_okM sN_M σ τ → eD τ e p1 → τ 65 4 = (o1 : Int) → pk σ τ L1 → sn_cd (sn_one A e 1) e o p = sn_lp (sn_one A e 1) e g o1 p1 → sl_cd (sn_one A e 1) (sl_one A e 1) e o p = L1 ++ sl_lp (sn_one A e 1) (sl_one A e 1) e g w o1 p1 → G 15 [some (2, 65, 0), some (2, 1, 0), some (2, 3, 0), some (0, 0, 9 - ((1 : Nat) : Int)), some (0, 0, 1), some (0, 0, bI w), some (0, 0, (i : Int)), o7] [] τ := by
    intro g
    induction g with
    | zero =>
      intro i o1 p1 τ w L1 o7 hi h1 h2 _ _ _ _ _ _
      omega
    | succ g ih =>
      intro i o1 p1 τ w L1 o7 hi h1 h2 M E1 f1 hp hr hL
      have ci : fw_c (i : Int) = (i : Int) := fw_s (by omega) (by omega)
      rw [sn_lps] at hr
      rw [sl_lps] at hL
      have iw : ∀ (τ1 : ab_SG) (x : Int) (Q : fw_KR), eD τ1 e p1 → 0 ≤ x → x ≤ 16 → (tw e p1 = x → Q (some (0, 0, 1)) τ1) → (tw e p1 ≠ x → Q (some (0, 0, 0)) τ1) → sp_isWord [(2, 1, 0), (4, 0, x)] τ1 Q := by
        intro τ1 x Q E2 h1 h2 a b
        have kw := E2.kw
        refine ⟨x, rfl, ⟨kw.2.1, kw.2.2, by omega, h2⟩, ?_⟩
        by_cases c : tw e p1 = x
        · rw [fw_bo_t ((E2.isw h1).mpr c)]
          exact a c
        · rw [fw_bo_f (fun z => c ((E2.isw h1).mp z))]
          exact b c
      have u0 : ∀ {X : Prop}, fw_c 0 ≠ 0 → X := fun z => absurd fw_c0 z
      have u1 : ∀ {X : Prop}, fw_c 1 = 0 → X := fun z => absurd (fw_c1.symm.trans z) (by decide)
      have n1 : fw_c 1 ≠ 0 := fun z => u1 z
      have stop : ¬ (tw e p1 = 8 ∨ tw e p1 = 7) → G 117 [some (2, 65, 0), some (2, 1, 0), some (2, 3, 0), some (0, 0, 9 - ((1 : Nat) : Int)), some (0, 0, 1), some (0, 0, bI w), some (0, 0, (i : Int)), o7] [] τ := fun c => by
        rw [if_neg c] at hr
        rw [if_neg (fun z => c (Or.inl z)), if_neg (fun z => c (Or.inr z))] at hL
        rw [hr, hL] at h
        exact ex1 τ w _ o7 (fun τ' M' P' => h.2 rfl τ' (ev_tr M (add M')) (E1.M M' (by decide) (by decide)) ((mk_at M' (k := 65) (j := 4) (by decide)).trans f1) (pk_tr hp P'))
      have g84 : (tw e p1 = 8 ∨ tw e p1 = 7) → ∀ (τ1 : ab_SG) (a7 b0 : Int) (w2 : Bool) (L2 T : sl_T), fw_op 9 (bI w) b0 = bI w2 → ab_okM sN_M σ τ1 → eD τ1 e p1 → τ1 65 4 = (o1 : Int) → pk σ τ1 L2 → ((fw_c a7 = 0 ∧ T = []) ∨ (fw_c a7 ≠ 0 ∧ T = [(1, 0)])) → sl_cd (sn_one A e 1) (sl_one A e 1) e o p = L2 ++ (sl_one A e 1 o1 (tn e p1) ++ (T ++ sl_lp (sn_one A e 1) (sl_one A e 1) e g w2 (sn_one A e 1 o1 (tn e p1)).2.2.1 (sn_one A e 1 o1 (tn e p1)).2.2.2)) → G 84 [some (2, 65, 0), some (2, 1, 0), some (2, 3, 0), some (0, 0, 9 - ((1 : Nat) : Int)), some (0, 0, 1), some (0, 0, bI w), some (0, 0, (i : Int)), some (0, 0, a7)] [(0, 0, b0), (0, 0, bI w)] τ1 := by
        intro c τ1 a7 b0 w2 L2 T hb M1 E2 f2 hp2 hT hL2
        refine fs_seCond1_84 hG ⟨rfl, E2.st.1, fun τ2 N2 S2 => fs_seCond1_91 hG ?_⟩
        rw [hb]
        have E3 := E2.st.2 τ2 N2 S2
        have M2 : ab_okM sN_M σ τ2 := ev_tr M1 (ev_up N2 (by decide))
        have p2 : pk σ τ2 L2 := pk_r hp2 (pk_k N2 (by decide))
        rw [if_pos c] at hr
        refine ⟨A, e, tn e p1, o1, rfl, ev_NC M2 (by decide +kernel) hN, E3, ⟨(mk_row N2 (k := 65) (by decide) 4).trans f2, h2⟩, fun q σ' M3 a b => ?_, fun q σ' M3 E4 f4 p4 => ?_⟩
        · rw [if_pos q] at hr
          rw [hr] at h
          have k : ∀ τ' : ab_SG, ab_okM se_M σ' τ' → K (some (0, 0, 0)) τ' := fun τ' M' => h.1 q τ' (ev_tr (ev_tr M2 M3) (add M')) ((mk_row M' (k := 1) (by decide) 9).trans a) ((mk_row M' (k := 1) (by decide) 10).trans b)
          exact fs_seCond1_98 hG ⟨fun _ => fs_seCond1_111 hG (ex0 σ' _ _ _ k), fun _ => ⟨_, _, rfl, fun τ' M' _ => fs_seCond1_111 hG (ex0 τ' _ _ _ (fun τ'' M'' => k τ'' (ev_tr M' M'')))⟩⟩
        · rw [if_neg (fun z => z q)] at hr
          have gr := og o1 (tn e p1) h2 q
          have p5 : pk σ σ' (L2 ++ sl_one A e 1 o1 (tn e p1)) := pk_tr p2 p4
          have nx : ∀ τ' : ab_SG, ab_okM sN_M σ τ' → eD τ' e (sn_one A e 1 o1 (tn e p1)).2.2.2 → τ' 65 4 = ((sn_one A e 1 o1 (tn e p1)).2.2.1 : Int) → pk σ τ' (L2 ++ sl_one A e 1 o1 (tn e p1) ++ T) → G 111 [some (2, 65, 0), some (2, 1, 0), some (2, 3, 0), some (0, 0, 9 - ((1 : Nat) : Int)), some (0, 0, 1), some (0, 0, bI w2), some (0, 0, (i : Int)), some (0, 0, a7)] [] τ' := fun τ' M' E' f' p' => fs_seCond1_111 hG (by
            have g := ih (i + 1) _ _ τ' w2 _ (some (0, 0, a7)) (by omega) (by omega) gr.2 M' E' f' p' hr (by rw [hL2, List.append_assoc, List.append_assoc])
            rw [show ((i + 1 : Nat) : Int) = (i : Int) + 1 from rfl] at g
            exact g)
          rcases hT with ⟨z, eT⟩ | ⟨z, eT⟩
          · exact fs_seCond1_98 hG ⟨fun _ => nx σ' (ev_tr M2 M3) E4 f4 (by rw [eT, List.append_nil]; exact p5), fun y => absurd z y⟩
          · exact fs_seCond1_98 hG ⟨fun y => absurd y z, fun _ => ⟨_, _, rfl, fun τ' M' P' => nx τ' (ev_tr (ev_tr M2 M3) (add M')) (E4.M M' (by decide) (by decide)) ((mk_at M' (k := 65) (j := 4) (by decide)).trans f4) (by rw [eT]; exact pk_tr p5 (P' fw_c1 fw_c0))⟩⟩
      -- AND
      have ga : tw e p1 = 8 → G 47 [some (2, 65, 0), some (2, 1, 0), some (2, 3, 0), some (0, 0, 9 - ((1 : Nat) : Int)), some (0, 0, 1), some (0, 0, bI w), some (0, 0, (i : Int)), o7] [] τ := fun c8 => by
        rw [if_pos c8] at hL
        exact fs_seCond1_47 hG (iw τ 8 _ E1 (by decide) (by decide) (fun _ => fs_seCond1_54 hG ⟨fun _ => fs_seCond1_72 hG ⟨fun _ => g84 (Or.inl c8) τ 1 0 w L1 [(1, 0)] (bI_a w) M E1 f1 hp (Or.inr ⟨n1, rfl⟩) hL, u1⟩, u1⟩) (fun z => absurd c8 z))
      -- OR
      have gb : tw e p1 ≠ 8 → tw e p1 = 7 → ∀ τ1 : ab_SG, ab_okM sN_M σ τ1 → eD τ1 e p1 → τ1 65 4 = (o1 : Int) → pk σ τ1 (L1 ++ fl w) → G 72 [some (2, 65, 0), some (2, 1, 0), some (2, 3, 0), some (0, 0, 9 - ((1 : Nat) : Int)), some (0, 0, 1), some (0, 0, bI w), some (0, 0, (i : Int)), some (0, 0, 0)] [] τ1 := fun c8 c7 τ1 M1 E2 f2 hp2 => by
        rw [if_neg c8, if_pos c7] at hL
        exact fs_seCond1_72 hG ⟨u0, fun _ => g84 (Or.inr c7) τ1 0 1 true (L1 ++ fl w) [] (bI_o w) M1 E2 f2 hp2 (Or.inl ⟨fw_c0, rfl⟩) (by rw [List.append_assoc]; exact hL)⟩
      have go : tw e p1 ≠ 8 → tw e p1 = 7 → G 47 [some (2, 65, 0), some (2, 1, 0), some (2, 3, 0), some (0, 0, 9 - ((1 : Nat) : Int)), some (0, 0, 1), some (0, 0, bI w), some (0, 0, (i : Int)), o7] [] τ := fun c8 c7 =>
        fs_seCond1_47 hG (iw τ 8 _ E1 (by decide) (by decide) (fun z => absurd z c8) (fun _ => fs_seCond1_54 hG ⟨u0, fun _ => ⟨fun z => gb c8 c7 τ M E1 f1 (by rw [bI_0 z]; exact pk_tr hp (show pk τ τ (fl false) from pk_0 τ)), fun z => ⟨_, _, rfl, fun τ' M' P' => gb c8 c7 τ' (ev_tr M (add M')) (E1.M M' (by decide) (by decide)) ((mk_at M' (k := 65) (j := 4) (by decide)).trans f1) (by rw [bI_1 z]; exact pk_tr hp (P' c2 fw_c0))⟩⟩⟩))
      refine fs_seCond1_15 hG ⟨fun z => absurd z (by rw [c20, ci]; omega), fun _ => ⟨u1, fun _ => iw τ 8 _ E1 (by decide) (by decide) (fun c => fs_seCond1_34 hG ⟨fun _ => ga c, u1⟩) (fun c8 => fs_seCond1_34 hG ⟨u0, fun _ => iw τ 7 _ E1 (by decide) (by decide) (fun c => fs_seCond1_44 hG ⟨u1, fun _ => go c8 c⟩) (fun c7 => fs_seCond1_44 hG ⟨fun _ => stop (fun z => z.elim c8 c7), u0⟩)⟩)⟩⟩
  exact fs_seCond1_0 hG ⟨A, e, p, o, rfl, hN, E, ⟨h4, ho⟩, fun q σ' M a b => fs_seCond1_7 hG (ex0 σ' 0 0 none (fun τ' M' => by
    have en : sn_cd (sn_one A e 1) e o p = sn_one A e 1 o p := if_pos q
    rw [en] at h
    exact h.1 q τ' (ev_tr M (add M')) ((mk_row M' (k := 1) (by decide) 9).trans a) ((mk_row M' (k := 1) (by decide) 10).trans b))), fun q σ' M E' f' p' => fs_seCond1_7 hG (by
    have gr := og o p ho q
    exact loop 20 0 _ _ σ' false _ none rfl (by omega) gr.2 M E' f' p' (if_neg (fun z => z q)) rfl)⟩)
end
abbrev fk_seOne2 : List fw_CR := [(41, 3, true, 5, 8, sp_seCond 1), (48, 1, true, 8, 0, sp_refuse), (52, 3, true, 5, 7, sp_seOne 1), (68, 2, true, 5, 1, sp_seAdd), (72, 0, true, 8, 2, sp_step), (75, 1, false, 0, 1, sp_seKind), (79, 1, true, 8, 3, sp_takeSign), (82, 3, true, 5, 3, sp_seNamed), (85, 2, true, 5, 3, sp_seMeas)]
abbrev st_seOne2 : fw_K → fw_KR → fw_K := fw_st vwCl nn_sh nn_kd fw_kv fw_wc (nn_KI5.map (fun x => x.1)) (nn_KJ5.map (fun x => x.1)) (nn_PF5.map (fun x => x.1)) (nn_PS5.map (fun x => x.1)) fk_seOne2 9 nn_dt175 7 1
theorem fs_seOne2_0 {G : fw_K} {R : fw_KR} (hG : fw_cls st_seOne2 R G) {d : Int} {σ : ab_SG} (h : sp_seKind [(2, 1, 0)] σ (fun rv σ2 => G 4 [some (2, 65, 0), some (2, 1, 0), some (2, 3, 0), some (0, 0, d), none, none, none] (rv.toList ++ []) σ2)) : G 0 [some (2, 65, 0), some (2, 1, 0), some (2, 3, 0), some (0, 0, d), none, none, none] [] σ := fw_on hG [4, 20, 38, 39, 54, 59, 74, 88, 97, 120, 128, 146, 156] 200 h
theorem fs_seOne2_4 {G : fw_K} {R : fw_KR} (hG : fw_cls st_seOne2 R G) {a3 b0 : Int} {o4 o6 : Option ab_AV} {σ : ab_SG} (h : (fw_c (σ 1 5) ≠ fw_c 40 → G 20 [some (2, 65, 0), some (2, 1, 0), some (2, 3, 0), some (0, 0, a3), some (0, 0, b0), none, o6] [(0, 0, 0)] σ) ∧ (fw_c (σ 1 5) = fw_c 40 → G 20 [some (2, 65, 0), some (2, 1, 0), some (2, 3, 0), some (0, 0, a3), some (0, 0, b0), none, o6] [(0, 0, 1)] σ)) : G 4 [some (2, 65, 0), some (2, 1, 0), some (2, 3, 0), some (0, 0, a3), o4, none, o6] [(0, 0, b0)] σ := fw_on hG [4, 20, 38, 39, 54, 59, 74, 88, 97, 120, 128, 146, 156] 200 h
theorem fs_seOne2_20 {G : fw_K} {R : fw_KR} (hG : fw_cls st_seOne2 R G) {a3 a4 b0 : Int} {o6 : Option ab_AV} {σ : ab_SG} (h : (fw_c a4 ≠ fw_c (-1) → G 39 [some (2, 65, 0), some (2, 1, 0), some (2, 3, 0), some (0, 0, a3), some (0, 0, a4), some (0, 0, b0), o6] [] σ) ∧ (fw_c a4 = fw_c (-1) → (fw_c b0 ≠ 0 → G 39 [some (2, 65, 0), some (2, 1, 0), some (2, 3, 0), some (0, 0, a3), some (0, 0, a4), some (0, 0, b0), o6] [] σ) ∧ (fw_c b0 = 0 → sp_refuse [(2, 1, 0), (0, 0, 1)] σ (fun rv σ2 => G 38 [some (2, 65, 0), some (2, 1, 0), some (2, 3, 0), some (0, 0, a3), some (0, 0, a4), some (0, 0, b0), o6] (rv.toList ++ []) σ2)))) : G 20 [some (2, 65, 0), some (2, 1, 0), some (2, 3, 0), some (0, 0, a3), some (0, 0, a4), none, o6] [(0, 0, b0)] σ := fw_on hG [4, 20, 38, 39, 54, 59, 74, 88, 97, 120, 128, 146, 156] 200 h
theorem fs_seOne2_39 {G : fw_K} {R : fw_KR} (hG : fw_cls st_seOne2 R G) {a3 a4 a5 : Int} {o6 : Option ab_AV} {σ : ab_SG} (h : (fw_c 20 ≤ fw_c (σ 65 4) → G 54 [some (2, 65, 0), some (2, 1, 0), some (2, 3, 0), some (0, 0, a3), some (0, 0, a4), some (0, 0, a5), o6] [] σ) ∧ (fw_c (σ 65 4) < fw_c 20 → (fw_c a3 ≤ fw_c 8 → sp_step [(2, 1, 0)] (ab_ups σ 65 4 (fw_c ((σ 65 4) + 1))) (fun rv σ2 => G 74 [some (2, 65, 0), some (2, 1, 0), some (2, 3, 0), some (0, 0, a3), some (0, 0, a4), some (0, 0, a5), o6] (rv.toList ++ []) σ2)) ∧ (fw_c 8 < fw_c a3 → G 54 [some (2, 65, 0), some (2, 1, 0), some (2, 3, 0), some (0, 0, a3), some (0, 0, a4), some (0, 0, a5), o6] [] σ))) : G 39 [some (2, 65, 0), some (2, 1, 0), some (2, 3, 0), some (0, 0, a3), some (0, 0, a4), some (0, 0, a5), o6] [] σ := fw_on hG [4, 20, 38, 39, 54, 59, 74, 88, 97, 120, 128, 146, 156] 200 h
theorem fs_seOne2_38 {G : fw_K} {R : fw_KR} (hG : fw_cls st_seOne2 R G) {a5 b0 : Int} {o1 o2 o3 o4 o6 : Option ab_AV} {σ : ab_SG} (h : (0 ≤ fw_c b0 ∧ fw_c b0 ≤ 1) ∧ R (some (0, 0, b0)) σ) : G 38 [some (2, 65, 0), o1, o2, o3, o4, some (0, 0, a5), o6] [(0, 0, b0)] σ := fw_on hG [4, 20, 38, 39, 54, 59, 74, 88, 97, 120, 128, 146, 156] 200 h
theorem fs_seOne2_54 {G : fw_K} {R : fw_KR} (hG : fw_cls st_seOne2 R G) {a5 : Int} {o2 o3 o4 o6 : Option ab_AV} {σ : ab_SG} (h : sp_refuse [(2, 1, 0), (0, 0, 4)] σ (fun rv σ2 => G 59 [some (2, 65, 0), some (2, 1, 0), o2, o3, o4, some (0, 0, a5), o6] (rv.toList ++ []) σ2)) : G 54 [some (2, 65, 0), some (2, 1, 0), o2, o3, o4, some (0, 0, a5), o6] [] σ := fw_on hG [4, 20, 38, 39, 54, 59, 74, 88, 97, 120, 128, 146, 156] 200 h
theorem fs_seOne2_74 {G : fw_K} {R : fw_KR} (hG : fw_cls st_seOne2 R G) {a3 a4 a5 : Int} {o6 : Option ab_AV} {σ : ab_SG} (h : (fw_c a5 = 0 → (fw_c a4 ≠ 0 → (fw_c 6 ≤ fw_c a4 → sp_seMeas [(2, 65, 0), (2, 1, 0), (0, 0, a4)] σ (fun rv σ2 => G 156 [some (2, 65, 0), some (2, 1, 0), some (2, 3, 0), some (0, 0, a3), some (0, 0, a4), some (0, 0, a5), o6] (rv.toList ++ []) σ2)) ∧ (fw_c a4 < fw_c 6 → sp_seNamed [(2, 65, 0), (2, 1, 0), (2, 3, 0), (0, 0, a4)] σ (fun rv σ2 => G 146 [some (2, 65, 0), some (2, 1, 0), some (2, 3, 0), some (0, 0, a3), some (0, 0, a4), some (0, 0, a5), o6] (rv.toList ++ []) σ2))) ∧ (fw_c a4 = 0 → sp_seOne 1 [(2, 65, 0), (2, 1, 0), (2, 3, 0), (0, 0, a3 + 1)] σ (fun rv σ2 => G 120 [some (2, 65, 0), some (2, 1, 0), some (2, 3, 0), some (0, 0, a3), some (0, 0, a4), some (0, 0, a5), o6] (rv.toList ++ []) σ2))) ∧ (fw_c a5 ≠ 0 → sp_seCond 1 [(2, 65, 0), (2, 1, 0), (2, 3, 0), (0, 0, a3 + 1)] σ (fun rv σ2 => G 88 [some (2, 65, 0), some (2, 1, 0), some (2, 3, 0), some (0, 0, a3), some (0, 0, a4), some (0, 0, a5), o6] (rv.toList ++ []) σ2))) : G 74 [some (2, 65, 0), some (2, 1, 0), some (2, 3, 0), some (0, 0, a3), some (0, 0, a4), some (0, 0, a5), o6] [] σ := fw_on hG [4, 20, 38, 39, 54, 59, 74, 88, 97, 120, 128, 146, 156] 200 h
theorem fs_seOne2_59 {G : fw_K} {R : fw_KR} (hG : fw_cls st_seOne2 R G) {a5 b0 : Int} {o1 o2 o3 o4 o6 : Option ab_AV} {σ : ab_SG} (h : (0 ≤ fw_c b0 ∧ fw_c b0 ≤ 1) ∧ R (some (0, 0, b0)) σ) : G 59 [some (2, 65, 0), o1, o2, o3, o4, some (0, 0, a5), o6] [(0, 0, b0)] σ := fw_on hG [4, 20, 38, 39, 54, 59, 74, 88, 97, 120, 128, 146, 156] 200 h
theorem fs_seOne2_156 {G : fw_K} {R : fw_KR} (hG : fw_cls st_seOne2 R G) {a5 b0 : Int} {o1 o2 o3 o4 o6 : Option ab_AV} {σ : ab_SG} (h : (0 ≤ fw_c b0 ∧ fw_c b0 ≤ 1) ∧ R (some (0, 0, b0)) σ) : G 156 [some (2, 65, 0), o1, o2, o3, o4, some (0, 0, a5), o6] [(0, 0, b0)] σ := fw_on hG [4, 20, 38, 39, 54, 59, 74, 88, 97, 120, 128, 146, 156] 200 h
theorem fs_seOne2_146 {G : fw_K} {R : fw_KR} (hG : fw_cls st_seOne2 R G) {a5 b0 : Int} {o1 o2 o3 o4 o6 : Option ab_AV} {σ : ab_SG} (h : G 156 [some (2, 65, 0), o1, o2, o3, o4, some (0, 0, a5), o6] [(0, 0, b0)] σ) : G 146 [some (2, 65, 0), o1, o2, o3, o4, some (0, 0, a5), o6] [(0, 0, b0)] σ := fw_on hG [4, 20, 38, 39, 54, 59, 74, 88, 97, 120, 128, 146, 156] 200 h
theorem fs_seOne2_120 {G : fw_K} {R : fw_KR} (hG : fw_cls st_seOne2 R G) {a5 b0 : Int} {o1 o2 o3 o4 o6 : Option ab_AV} {σ : ab_SG} (h : sp_seAdd [(2, 65, 0), (0, 0, 0), (0, 0, 0)] σ (fun rv σ2 => G 128 [some (2, 65, 0), o1, o2, o3, o4, some (0, 0, a5), some (0, 0, b0)] (rv.toList ++ []) σ2)) : G 120 [some (2, 65, 0), o1, o2, o3, o4, some (0, 0, a5), o6] [(0, 0, b0)] σ := fw_on hG [4, 20, 38, 39, 54, 59, 74, 88, 97, 120, 128, 146, 156] 200 h
theorem fs_seOne2_88 {G : fw_K} {R : fw_KR} (hG : fw_cls st_seOne2 R G) {a5 b0 : Int} {o2 o3 o4 o6 : Option ab_AV} {σ : ab_SG} (h : (fw_c b0 = 0 → (0 ≤ fw_c 0 ∧ fw_c 0 ≤ 1) ∧ R (some (0, 0, 0)) σ) ∧ (fw_c b0 ≠ 0 → sp_takeSign [(2, 1, 0), (0, 0, 41)] σ (fun rv σ2 => G 97 [some (2, 65, 0), some (2, 1, 0), o2, o3, o4, some (0, 0, a5), o6] (rv.toList ++ []) σ2))) : G 88 [some (2, 65, 0), some (2, 1, 0), o2, o3, o4, some (0, 0, a5), o6] [(0, 0, b0)] σ := fw_on hG [4, 20, 38, 39, 54, 59, 74, 88, 97, 120, 128, 146, 156] 200 h
theorem fs_seOne2_128 {G : fw_K} {R : fw_KR} (hG : fw_cls st_seOne2 R G) {a5 a6 : Int} {o1 o2 o3 o4 : Option ab_AV} {σ : ab_SG} (h : (0 ≤ fw_c a6 ∧ fw_c a6 ≤ 1) ∧ R (some (0, 0, a6)) σ) : G 128 [some (2, 65, 0), o1, o2, o3, o4, some (0, 0, a5), some (0, 0, a6)] [] σ := fw_on hG [4, 20, 38, 39, 54, 59, 74, 88, 97, 120, 128, 146, 156] 200 h
theorem fs_seOne2_97 {G : fw_K} {R : fw_KR} (hG : fw_cls st_seOne2 R G) {a5 b0 : Int} {o1 o2 o3 o4 o6 : Option ab_AV} {σ : ab_SG} (h : (fw_c b0 = 0 → (0 ≤ fw_c 0 ∧ fw_c 0 ≤ 1) ∧ R (some (0, 0, 0)) σ) ∧ (fw_c b0 ≠ 0 → (0 ≤ fw_c 1 ∧ fw_c 1 ≤ 1) ∧ R (some (0, 0, 1)) σ)) : G 97 [some (2, 65, 0), o1, o2, o3, o4, some (0, 0, a5), o6] [(0, 0, b0)] σ := fw_on hG [4, 20, 38, 39, 54, 59, 74, 88, 97, 120, 128, 146, 156] 200 h
abbrev fk_seCond2 : List fw_CR := [(52, 3, true, 5, 9, sp_seOne 2), (61, 1, true, 8, 0, sp_isWord), (68, 2, true, 5, 1, sp_seAdd), (72, 0, true, 8, 2, sp_step)]
abbrev st_seCond2 : fw_K → fw_KR → fw_K := fw_st vwCl nn_sh nn_kd fw_kv fw_wc (nn_KI5.map (fun x => x.1)) (nn_KJ5.map (fun x => x.1)) (nn_PF5.map (fun x => x.1)) (nn_PS5.map (fun x => x.1)) fk_seCond2 10 nn_dt174 8 1
theorem fs_seCond2_0 {G : fw_K} {R : fw_KR} (hG : fw_cls st_seCond2 R G) {d : Int} {σ : ab_SG} (h : sp_seOne 2 [(2, 65, 0), (2, 1, 0), (2, 3, 0), (0, 0, d)] σ (fun rv σ2 => G 7 [some (2, 65, 0), some (2, 1, 0), some (2, 3, 0), some (0, 0, d), none, none, none, none] (rv.toList ++ []) σ2)) : G 0 [some (2, 65, 0), some (2, 1, 0), some (2, 3, 0), some (0, 0, d), none, none, none, none] [] σ := fw_on hG [7, 15, 34, 44, 47, 54, 72, 84, 91, 98, 111, 117, 128] 200 h
theorem fs_seCond2_7 {G : fw_K} {R : fw_KR} (hG : fw_cls st_seCond2 R G) {a3 b0 : Int} {o5 o6 o7 : Option ab_AV} {σ : ab_SG} (h : G 15 [some (2, 65, 0), some (2, 1, 0), some (2, 3, 0), some (0, 0, a3), some (0, 0, b0), some (0, 0, 0), some (0, 0, 0), o7] [] σ) : G 7 [some (2, 65, 0), some (2, 1, 0), some (2, 3, 0), some (0, 0, a3), none, o5, o6, o7] [(0, 0, b0)] σ := fw_on hG [7, 15, 34, 44, 47, 54, 72, 84, 91, 98, 111, 117, 128] 200 h
theorem fs_seCond2_15 {G : fw_K} {R : fw_KR} (hG : fw_cls st_seCond2 R G) {a3 a4 a5 a6 : Int} {o7 : Option ab_AV} {σ : ab_SG} (h : (fw_c 20 ≤ fw_c a6 → G 117 [some (2, 65, 0), some (2, 1, 0), some (2, 3, 0), some (0, 0, a3), some (0, 0, a4), some (0, 0, a5), some (0, 0, a6), o7] [] σ) ∧ (fw_c a6 < fw_c 20 → (fw_c a4 = 0 → G 117 [some (2, 65, 0), some (2, 1, 0), some (2, 3, 0), some (0, 0, a3), some (0, 0, a4), some (0, 0, a5), some (0, 0, a6), o7] [] σ) ∧ (fw_c a4 ≠ 0 → sp_isWord [(2, 1, 0), (4, 0, 8)] σ (fun rv σ2 => G 34 [some (2, 65, 0), some (2, 1, 0), some (2, 3, 0), some (0, 0, a3), some (0, 0, a4), some (0, 0, a5), some (0, 0, a6), o7] (rv.toList ++ []) σ2)))) : G 15 [some (2, 65, 0), some (2, 1, 0), some (2, 3, 0), some (0, 0, a3), some (0, 0, a4), some (0, 0, a5), some (0, 0, a6), o7] [] σ := fw_on hG [7, 15, 34, 44, 47, 54, 72, 84, 91, 98, 111, 117, 128] 200 h
theorem fs_seCond2_117 {G : fw_K} {R : fw_KR} (hG : fw_cls st_seCond2 R G) {a4 a5 : Int} {o1 o2 o3 o6 o7 : Option ab_AV} {σ : ab_SG} (h : (fw_c a5 = 0 → G 128 [some (2, 65, 0), o1, o2, o3, some (0, 0, a4), some (0, 0, a5), o6, o7] [] σ) ∧ (fw_c a5 ≠ 0 → sp_seAdd [(2, 65, 0), (0, 0, 2), (0, 0, 0)] σ (fun rv σ2 => G 128 [some (2, 65, 0), o1, o2, o3, some (0, 0, a4), some (0, 0, a5), o6, o7] (rv.toList ++ []) σ2))) : G 117 [some (2, 65, 0), o1, o2, o3, some (0, 0, a4), some (0, 0, a5), o6, o7] [] σ := fw_on hG [7, 15, 34, 44, 47, 54, 72, 84, 91, 98, 111, 117, 128] 200 h
theorem fs_seCond2_34 {G : fw_K} {R : fw_KR} (hG : fw_cls st_seCond2 R G) {a3 a4 a5 a6 b0 : Int} {o7 : Option ab_AV} {σ : ab_SG} (h : (fw_c b0 ≠ 0 → G 47 [some (2, 65, 0), some (2, 1, 0), some (2, 3, 0), some (0, 0, a3), some (0, 0, a4), some (0, 0, a5), some (0, 0, a6), o7] [] σ) ∧ (fw_c b0 = 0 → sp_isWord [(2, 1, 0), (4, 0, 7)] σ (fun rv σ2 => G 44 [some (2, 65, 0), some (2, 1, 0), some (2, 3, 0), some (0, 0, a3), some (0, 0, a4), some (0, 0, a5), some (0, 0, a6), o7] (rv.toList ++ []) σ2))) : G 34 [some (2, 65, 0), some (2, 1, 0), some (2, 3, 0), some (0, 0, a3), some (0, 0, a4), some (0, 0, a5), some (0, 0, a6), o7] [(0, 0, b0)] σ := fw_on hG [7, 15, 34, 44, 47, 54, 72, 84, 91, 98, 111, 117, 128] 200 h
theorem fs_seCond2_128 {G : fw_K} {R : fw_KR} (hG : fw_cls st_seCond2 R G) {a4 : Int} {o1 o2 o3 o5 o6 o7 : Option ab_AV} {σ : ab_SG} (h : (0 ≤ fw_c a4 ∧ fw_c a4 ≤ 1) ∧ R (some (0, 0, a4)) σ) : G 128 [some (2, 65, 0), o1, o2, o3, some (0, 0, a4), o5, o6, o7] [] σ := fw_on hG [7, 15, 34, 44, 47, 54, 72, 84, 91, 98, 111, 117, 128] 200 h
theorem fs_seCond2_47 {G : fw_K} {R : fw_KR} (hG : fw_cls st_seCond2 R G) {a3 a4 a5 a6 : Int} {o7 : Option ab_AV} {σ : ab_SG} (h : sp_isWord [(2, 1, 0), (4, 0, 8)] σ (fun rv σ2 => G 54 [some (2, 65, 0), some (2, 1, 0), some (2, 3, 0), some (0, 0, a3), some (0, 0, a4), some (0, 0, a5), some (0, 0, a6), o7] (rv.toList ++ []) σ2)) : G 47 [some (2, 65, 0), some (2, 1, 0), some (2, 3, 0), some (0, 0, a3), some (0, 0, a4), some (0, 0, a5), some (0, 0, a6), o7] [] σ := fw_on hG [7, 15, 34, 44, 47, 54, 72, 84, 91, 98, 111, 117, 128] 200 h
theorem fs_seCond2_44 {G : fw_K} {R : fw_KR} (hG : fw_cls st_seCond2 R G) {a3 a4 a5 a6 b0 : Int} {o7 : Option ab_AV} {σ : ab_SG} (h : (fw_c b0 = 0 → G 117 [some (2, 65, 0), some (2, 1, 0), some (2, 3, 0), some (0, 0, a3), some (0, 0, a4), some (0, 0, a5), some (0, 0, a6), o7] [] σ) ∧ (fw_c b0 ≠ 0 → G 47 [some (2, 65, 0), some (2, 1, 0), some (2, 3, 0), some (0, 0, a3), some (0, 0, a4), some (0, 0, a5), some (0, 0, a6), o7] [] σ)) : G 44 [some (2, 65, 0), some (2, 1, 0), some (2, 3, 0), some (0, 0, a3), some (0, 0, a4), some (0, 0, a5), some (0, 0, a6), o7] [(0, 0, b0)] σ := fw_on hG [7, 15, 34, 44, 47, 54, 72, 84, 91, 98, 111, 117, 128] 200 h
theorem fs_seCond2_54 {G : fw_K} {R : fw_KR} (hG : fw_cls st_seCond2 R G) {a3 a4 a5 a6 b0 : Int} {o7 : Option ab_AV} {σ : ab_SG} (h : (fw_c b0 ≠ 0 → G 72 [some (2, 65, 0), some (2, 1, 0), some (2, 3, 0), some (0, 0, a3), some (0, 0, a4), some (0, 0, a5), some (0, 0, a6), some (0, 0, b0)] [] σ) ∧ (fw_c b0 = 0 → (fw_c a5 = 0 → G 72 [some (2, 65, 0), some (2, 1, 0), some (2, 3, 0), some (0, 0, a3), some (0, 0, a4), some (0, 0, a5), some (0, 0, a6), some (0, 0, b0)] [] σ) ∧ (fw_c a5 ≠ 0 → sp_seAdd [(2, 65, 0), (0, 0, 2), (0, 0, 0)] σ (fun rv σ2 => G 72 [some (2, 65, 0), some (2, 1, 0), some (2, 3, 0), some (0, 0, a3), some (0, 0, a4), some (0, 0, a5), some (0, 0, a6), some (0, 0, b0)] (rv.toList ++ []) σ2)))) : G 54 [some (2, 65, 0), some (2, 1, 0), some (2, 3, 0), some (0, 0, a3), some (0, 0, a4), some (0, 0, a5), some (0, 0, a6), o7] [(0, 0, b0)] σ := fw_on hG [7, 15, 34, 44, 47, 54, 72, 84, 91, 98, 111, 117, 128] 200 h
theorem fs_seCond2_72 {G : fw_K} {R : fw_KR} (hG : fw_cls st_seCond2 R G) {a3 a4 a5 a6 a7 : Int} {σ : ab_SG} (h : (fw_c a7 ≠ 0 → G 84 [some (2, 65, 0), some (2, 1, 0), some (2, 3, 0), some (0, 0, a3), some (0, 0, a4), some (0, 0, a5), some (0, 0, a6), some (0, 0, a7)] [(0, 0, 0), (0, 0, a5)] σ) ∧ (fw_c a7 = 0 → G 84 [some (2, 65, 0), some (2, 1, 0), some (2, 3, 0), some (0, 0, a3), some (0, 0, a4), some (0, 0, a5), some (0, 0, a6), some (0, 0, a7)] [(0, 0, 1), (0, 0, a5)] σ)) : G 72 [some (2, 65, 0), some (2, 1, 0), some (2, 3, 0), some (0, 0, a3), some (0, 0, a4), some (0, 0, a5), some (0, 0, a6), some (0, 0, a7)] [] σ := fw_on hG [7, 15, 34, 44, 47, 54, 72, 84, 91, 98, 111, 117, 128] 200 h
theorem fs_seCond2_84 {G : fw_K} {R : fw_KR} (hG : fw_cls st_seCond2 R G) {a3 a4 a6 a7 b0 b1 : Int} {o5 : Option ab_AV} {σ : ab_SG} (h : sp_step [(2, 1, 0)] σ (fun rv σ2 => G 91 [some (2, 65, 0), some (2, 1, 0), some (2, 3, 0), some (0, 0, a3), some (0, 0, a4), some (0, 0, fw_op 9 b1 b0), some (0, 0, a6), some (0, 0, a7)] (rv.toList ++ []) σ2)) : G 84 [some (2, 65, 0), some (2, 1, 0), some (2, 3, 0), some (0, 0, a3), some (0, 0, a4), o5, some (0, 0, a6), some (0, 0, a7)] [(0, 0, b0), (0, 0, b1)] σ := fw_on hG [7, 15, 34, 44, 47, 54, 72, 84, 91, 98, 111, 117, 128] 200 h
theorem fs_seCond2_91 {G : fw_K} {R : fw_KR} (hG : fw_cls st_seCond2 R G) {a3 a4 a5 a6 a7 : Int} {σ : ab_SG} (h : sp_seOne 2 [(2, 65, 0), (2, 1, 0), (2, 3, 0), (0, 0, a3)] σ (fun rv σ2 => G 98 [some (2, 65, 0), some (2, 1, 0), some (2, 3, 0), some (0, 0, a3), some (0, 0, a4), some (0, 0, a5), some (0, 0, a6), some (0, 0, a7)] (rv.toList ++ []) σ2)) : G 91 [some (2, 65, 0), some (2, 1, 0), some (2, 3, 0), some (0, 0, a3), some (0, 0, a4), some (0, 0, a5), some (0, 0, a6), some (0, 0, a7)] [] σ := fw_on hG [7, 15, 34, 44, 47, 54, 72, 84, 91, 98, 111, 117, 128] 200 h
theorem fs_seCond2_98 {G : fw_K} {R : fw_KR} (hG : fw_cls st_seCond2 R G) {a3 a4 a5 a6 a7 b0 : Int} {σ : ab_SG} (h : (fw_c a7 = 0 → G 111 [some (2, 65, 0), some (2, 1, 0), some (2, 3, 0), some (0, 0, a3), some (0, 0, b0), some (0, 0, a5), some (0, 0, a6), some (0, 0, a7)] [] σ) ∧ (fw_c a7 ≠ 0 → sp_seAdd [(2, 65, 0), (0, 0, 1), (0, 0, 0)] σ (fun rv σ2 => G 111 [some (2, 65, 0), some (2, 1, 0), some (2, 3, 0), some (0, 0, a3), some (0, 0, b0), some (0, 0, a5), some (0, 0, a6), some (0, 0, a7)] (rv.toList ++ []) σ2))) : G 98 [some (2, 65, 0), some (2, 1, 0), some (2, 3, 0), some (0, 0, a3), some (0, 0, a4), some (0, 0, a5), some (0, 0, a6), some (0, 0, a7)] [(0, 0, b0)] σ := fw_on hG [7, 15, 34, 44, 47, 54, 72, 84, 91, 98, 111, 117, 128] 200 h
theorem fs_seCond2_111 {G : fw_K} {R : fw_KR} (hG : fw_cls st_seCond2 R G) {a3 a4 a5 a6 : Int} {o7 : Option ab_AV} {σ : ab_SG} (h : G 15 [some (2, 65, 0), some (2, 1, 0), some (2, 3, 0), some (0, 0, a3), some (0, 0, a4), some (0, 0, a5), some (0, 0, a6 + 1), o7] [] σ) : G 111 [some (2, 65, 0), some (2, 1, 0), some (2, 3, 0), some (0, 0, a3), some (0, 0, a4), some (0, 0, a5), some (0, 0, a6), o7] [] σ := fw_on hG [7, 15, 34, 44, 47, 54, 72, 84, 91, 98, 111, 117, 128] 200 h
section
variable {l : Launch} {cy : Nat → ClassId} {ad wr cr : Nat → Nat} {D : va_G}
theorem fm_seOne2 (hinj : nn_inj ad) : fw_H l cy ad wr cr D 175 9 (sp_seOne 2) := fw_mk hinj (⟨"NameNotes$Sentence", "readOne", "(LNameNotes$Tape;LNameNotes$Studio;I)Z"⟩, prog_7_method_6_code, 7, (Option.some Jvm.ClassFile.FieldType.boolean), 3, true, 1) rfl rfl nn_KI5_ok nn_KJ5_ok nn_PF5_ok nn_PS5_ok (by decide +kernel) rfl rfl (List.forall_mem_cons.mpr ⟨fw_row nn_PM5_ok (x := 41) (k := 0) (mn := 174) (np := 3) (ob := true) (ci := 5) (⟨"NameNotes$Sentence", "readCond", "(LNameNotes$Tape;LNameNotes$Studio;I)Z"⟩, prog_7_method_5_code, 8, (Option.some Jvm.ClassFile.FieldType.boolean), 3, true, 1) rfl (by decide +kernel) rfl rfl (by decide) (fun _ => ⟨_, _, rfl⟩) (fm_seCond1 hinj), (List.forall_mem_cons.mpr ⟨fw_row nn_PM5_ok (x := 48) (k := 0) (mn := 22) (np := 1) (ob := true) (ci := 8) (⟨"NameNotes$Tape", "refuse", "(I)Z"⟩, prog_10_method_14_code, 2, (Option.some Jvm.ClassFile.FieldType.boolean), 1, true, 1) rfl (by decide +kernel) rfl rfl (by decide) (fun _ => ⟨_, _, rfl⟩) (fm_refuse hinj), (List.forall_mem_cons.mpr ⟨fw_row nn_PM5_ok (x := 52) (k := 0) (mn := 175) (np := 3) (ob := true) (ci := 5) (⟨"NameNotes$Sentence", "readOne", "(LNameNotes$Tape;LNameNotes$Studio;I)Z"⟩, prog_7_method_6_code, 7, (Option.some Jvm.ClassFile.FieldType.boolean), 3, true, 1) rfl (by decide +kernel) rfl rfl (by decide) (fun _ => ⟨_, _, rfl⟩) (fm_seOne1 hinj), (List.forall_mem_cons.mpr ⟨fw_row nn_PM5_ok (x := 68) (k := 0) (mn := 177) (np := 2) (ob := true) (ci := 5) (⟨"NameNotes$Sentence", "addStep", "(II)V"⟩, prog_7_method_10_code, 3, (Option.none : Option Jvm.ClassFile.FieldType), 2, true, 4) rfl (by decide +kernel) rfl rfl (by decide) (fun _ => ⟨_, _, rfl⟩) (fm_seAdd hinj), (List.forall_mem_cons.mpr ⟨fw_row nn_PM5_ok (x := 72) (k := 0) (mn := 10) (np := 0) (ob := true) (ci := 8) (⟨"NameNotes$Tape", "step", "()V"⟩, prog_10_method_5_code, 2, (Option.none : Option Jvm.ClassFile.FieldType), 0, true, 4) rfl (by decide +kernel) rfl rfl (by decide) (fun _ => ⟨_, _, rfl⟩) (fm_step hinj), (List.forall_mem_cons.mpr ⟨fw_row nn_PM5_ok (x := 75) (k := 0) (mn := 176) (np := 1) (ob := false) (ci := 0) (⟨"NameNotes$Sentence", "kindOf", "(LNameNotes$Tape;)I"⟩, prog_7_method_9_code, 1, (Option.some Jvm.ClassFile.FieldType.int), 1, false, 0) rfl (by decide +kernel) rfl rfl (by decide) (fun q => by cases q) (fm_seKind hinj), (List.forall_mem_cons.mpr ⟨fw_row nn_PM5_ok (x := 79) (k := 0) (mn := 40) (np := 1) (ob := true) (ci := 8) (⟨"NameNotes$Tape", "takeSign", "(I)Z"⟩, prog_10_method_13_code, 2, (Option.some Jvm.ClassFile.FieldType.boolean), 1, true, 1) rfl (by decide +kernel) rfl rfl (by decide) (fun _ => ⟨_, _, rfl⟩) (fm_takeSign hinj), (List.forall_mem_cons.mpr ⟨fw_row nn_PM5_ok (x := 82) (k := 0) (mn := 178) (np := 3) (ob := true) (ci := 5) (⟨"NameNotes$Sentence", "readNamed", "(LNameNotes$Tape;LNameNotes$Studio;I)Z"⟩, prog_7_method_7_code, 5, (Option.some Jvm.ClassFile.FieldType.boolean), 3, true, 1) rfl (by decide +kernel) rfl rfl (by decide) (fun _ => ⟨_, _, rfl⟩) (fm_seNamed hinj), (List.forall_mem_cons.mpr ⟨fw_row nn_PM5_ok (x := 85) (k := 0) (mn := 179) (np := 2) (ob := true) (ci := 5) (⟨"NameNotes$Sentence", "readMeasured", "(LNameNotes$Tape;I)Z"⟩, prog_7_method_8_code, 4, (Option.some Jvm.ClassFile.FieldType.boolean), 2, true, 1) rfl (by decide +kernel) rfl rfl (by decide) (fun _ => ⟨_, _, rfl⟩) (fm_seMeas hinj), (fun _ h => absurd h List.not_mem_nil)⟩)⟩)⟩)⟩)⟩)⟩)⟩)⟩)⟩) (fun as σ K h => by
  obtain ⟨A, e, p, o, rfl, hN, E, ⟨h4, ho⟩, h⟩ := h
  have tk1 := (tk_can e p).1
  have m1 : fw_c (-1) = -1 := fw_s (by decide) (by decide)
  have c40 : fw_c 40 = 40 := fw_s (by decide) (by decide)
  have c20 : fw_c 20 = 20 := fw_s (by decide) (by decide)
  have c8 : fw_c 8 = 8 := fw_s (by decide) (by decide)
  have c6 : fw_c 6 = 6 := fw_s (by decide) (by decide)
  have cd : fw_c (9 - ((2 : Nat) : Int)) = 9 - ((2 : Nat) : Int) := fw_s (by decide) (by decide)
  have c4 : fw_c (σ 65 4) = (o : Int) := by rw [h4]; exact fw_s (by omega) (by omega)
  have sv := sk_in e p
  have csk : fw_c (sk_v e p) = sk_v e p := fw_s (by omega) (by omega)
  have n40 : (tk e p).1 = 40 → ¬ (9 ≤ tw e p ∧ tw e p ≤ 16) := fun z y => by
    have := tw_k (e := e) (p := p) (by omega)
    omega
  refine ⟨rfl, fun G hG => fs_seOne2_0 hG ⟨e, p, rfl, E, fs_seOne2_4 hG ?_⟩⟩
  rw [E.kind.2, c40]
  have four : sn_st e p → sn_one A e 2 o p = (4, ev_st e p, o, p) → ∀ a5 : Int, G 54 [some (2, 65, 0), some (2, 1, 0), some (2, 3, 0), some (0, 0, 9 - ((2 : Nat) : Int)), some (0, 0, sk_v e p), some (0, 0, a5), none] [] σ := fun y en a5 => by
    rw [en] at h
    exact fs_seOne2_54 hG ⟨4, rfl, E.rf (x := 4) (v := 0) (K := fun rv σ2 => G 59 [some (2, 65, 0), some (2, 1, 0), some (2, 3, 0), some (0, 0, 9 - ((2 : Nat) : Int)), some (0, 0, sk_v e p), some (0, 0, a5), none] (rv.toList ++ []) σ2) (by decide) (fun σ' a b c => fs_seOne2_59 hG ⟨fw_01, h.1 (show (4 : Int) ≠ 0 by decide) σ' (ev_up a (by decide)) b c⟩)⟩
  have go : sn_st e p → ∀ a5 : Int, ((a5 = 1 ∧ (tk e p).1 = 40) ∨ (a5 = 0 ∧ (tk e p).1 ≠ 40)) → G 39 [some (2, 65, 0), some (2, 1, 0), some (2, 3, 0), some (0, 0, 9 - ((2 : Nat) : Int)), some (0, 0, sk_v e p), some (0, 0, a5), none] [] σ := by
    intro y a5 h5
    refine fs_seOne2_39 hG ?_
    rw [c4, c20, c8, cd, h4]
    refine ⟨fun z => four y ?_ a5, fun z => ⟨fun _ => ⟨rfl, ?_⟩, fun z => absurd z (by decide)⟩⟩
    · rw [show sn_one A e 2 o p = _ from sn_one_s A e 1 o p, if_neg (fun w => w y), if_pos (by omega)]
    have en : sn_one A e 2 o p = _ := sn_one_s A e 1 o p
    rw [if_neg (fun w => w y), if_neg (by omega)] at en
    have ln : sl_one A e 2 o p = _ := sl_one_s A e 1 o p
    have co : fw_c ((o : Int) + 1) = ((o + 1 : Nat) : Int) := fw_s (by omega) (by omega)
    rw [co]
    have E1 : eD (ab_ups σ 65 4 ((o + 1 : Nat) : Int)) e p := E.M (M := [(65, 4)]) okM_one (by decide) (by decide)
    have M1 : ab_okM sN_M σ (ab_ups σ 65 4 ((o + 1 : Nat) : Int)) := fw_okM_ups (fw_okM_refl _ _) (by decide)
    have Q1 : ab_okM [(65, 4)] σ (ab_ups σ 65 4 ((o + 1 : Nat) : Int)) := okM_one
    have f1 : (ab_ups σ 65 4 ((o + 1 : Nat) : Int)) 65 4 = ((o + 1 : Nat) : Int) := ab_ups_eq
    generalize ab_ups σ 65 4 ((o + 1 : Nat) : Int) = σ1 at E1 M1 Q1 f1 ⊢
    refine ⟨E1.st.1, fun σ2 N2 S2 => fs_seOne2_74 hG ?_⟩
    have E2 := E1.st.2 σ2 N2 S2
    have M2 : ab_okM sN_M σ σ2 := ev_tr M1 (ev_up N2 (by decide))
    have p2 : pk σ σ2 [] := pk_l (pk_k (M := [(65, 4)]) Q1 (by decide)) (pk_k N2 (by decide))
    have f2 : σ2 65 4 = ((o + 1 : Nat) : Int) := (mk_row N2 (k := 65) (by decide) 4).trans f1
    have N2' : NC σ2 A := ev_NC M2 (by decide +kernel) hN
    rw [csk, c6]
    -- what comes back is told on
    have p156 : ∀ (r : sn_T) (L : sl_T), sn_one A e 2 o p = r → sl_one A e 2 o p = L → sl_post σ2 r L e (fun rv σ3 => G 156 [some (2, 65, 0), some (2, 1, 0), some (2, 3, 0), some (0, 0, 9 - ((2 : Nat) : Int)), some (0, 0, sk_v e p), some (0, 0, a5), none] (rv.toList ++ []) σ3) := by
      intro r L er el
      rw [er, el] at h
      exact ⟨fun q σ' M a b => fs_seOne2_156 hG ⟨fw_01, h.1 q σ' (ev_tr M2 M) a b⟩, fun q σ' M a b c => fs_seOne2_156 hG ⟨fw_11, h.2 q σ' (ev_tr M2 M) a b (pk_l p2 c)⟩⟩
    refine ⟨fun z5 => ?_, fun z5 => ?_⟩
    · have n4 : (tk e p).1 ≠ 40 := by
        rcases h5 with ⟨q, -⟩ | ⟨-, q⟩
        · rw [q] at z5
          exact absurd (fw_c1.symm.trans z5) (by decide)
        · exact q
      have y2 : 9 ≤ tw e p ∧ tw e p ≤ 16 := y.resolve_left n4
      rw [if_neg n4] at en ln
      refine ⟨fun z6 => ⟨fun z7 => ?_, fun z7 => ?_⟩, fun z6 => ?_⟩
      · rw [if_neg (by omega), if_neg (by omega), if_neg (by omega), if_neg (by omega)] at en ln
        exact ⟨e, tn e p, o + 1, _, rfl, ⟨by omega, by omega⟩, E2, f2, p156 _ _ en ln⟩
      · rw [if_neg (by omega)] at en ln
        have nmd : ∀ (r : sn_T) (L : sl_T), sn_one A e 2 o p = r → sl_one A e 2 o p = L → sl_post σ2 r L e (fun rv σ3 => G 146 [some (2, 65, 0), some (2, 1, 0), some (2, 3, 0), some (0, 0, 9 - ((2 : Nat) : Int)), some (0, 0, sk_v e p), some (0, 0, a5), none] (rv.toList ++ []) σ3) := fun r L er el => ⟨fun q σ' M a b => fs_seOne2_146 hG ((p156 r L er el).1 q σ' M a b), fun q σ' M a b c => fs_seOne2_146 hG ((p156 r L er el).2 q σ' M a b c)⟩
        refine ⟨A, e, tn e p, o + 1, _, rfl, N2', E2, f2, ?_⟩
        by_cases w1 : tw e p = 10
        · rw [if_pos w1] at en ln
          exact Or.inl ⟨by omega, nmd _ _ en ln⟩
        rw [if_neg w1] at en ln
        by_cases w2 : tw e p = 11
        · rw [if_pos w2] at en ln
          exact Or.inr (Or.inl ⟨by omega, nmd _ _ en ln⟩)
        rw [if_neg w2, if_pos (by omega)] at en ln
        exact Or.inr (Or.inr ⟨by omega, nmd _ _ en ln⟩)
      · rw [if_pos (by omega)] at en ln
        rw [en, ln] at h
        refine ⟨A, e, tn e p, o + 1, rfl, N2', E2, ⟨f2, by omega⟩, fun q σ' M a b => fs_seOne2_120 hG ⟨0, 0, rfl, fun σ4 M4 _ => fs_seOne2_128 hG ⟨fw_01, h.1 q σ4 (ev_tr (ev_tr M2 M) (ev_up M4 (by decide))) ((mk_row M4 (k := 1) (by decide) 9).trans a) ((mk_row M4 (k := 1) (by decide) 10).trans b)⟩⟩, fun q σ' M a b c => fs_seOne2_120 hG ⟨0, 0, rfl, fun σ4 M4 P4 => fs_seOne2_128 hG ⟨fw_11, h.2 q σ4 (ev_tr (ev_tr M2 M) (ev_up M4 (by decide))) (a.M M4 (by decide) (by decide)) ((mk_at M4 (k := 65) (j := 4) (by decide)).trans b) (pk_tr (pk_l p2 c) (P4 fw_c0 fw_c0))⟩⟩⟩
    · have n4 : (tk e p).1 = 40 := by
        rcases h5 with ⟨-, q⟩ | ⟨q, -⟩
        · exact q
        · rw [q] at z5
          exact absurd fw_c0 z5
      rw [if_pos n4] at en ln
      generalize hr : sn_cd (sn_one A e 1) e (o + 1) (tn e p) = r at en
      rw [en, ln] at h
      refine ⟨A, e, tn e p, o + 1, rfl, N2', E2, ⟨f2, by omega⟩, ?_⟩
      rw [hr]
      refine ⟨fun q σ' M a b => ?_, fun q σ' M E3 f3 p3 => ?_⟩
      · rw [show sn_br e r = r from if_pos q] at h
        exact fs_seOne2_88 hG ⟨fun _ => ⟨fw_01, h.1 q σ' (ev_tr M2 M) a b⟩, fun z => absurd fw_c0 z⟩
      · have M3 : ab_okM sN_M σ σ' := ev_tr M2 M
        refine fs_seOne2_88 hG ⟨fun z => absurd (fw_c1.symm.trans z) (by decide), fun _ => E3.sg (by decide) (fun w σ4 a b c => ?_) (fun w σ4 M4 E4 => ?_)⟩
        · have eb : sn_br e r = (1, ev_st e r.2.2.2, r.2.2.1, r.2.2.2) := (if_neg (fun z => z q)).trans (if_pos w)
          rw [eb] at h
          exact fs_seOne2_97 hG ⟨fun _ => ⟨fw_01, h.1 (show (1 : Int) ≠ 0 by decide) σ4 (ev_tr M3 (ev_up a (by decide))) b c⟩, fun z => absurd fw_c0 z⟩
        · have eb : sn_br e r = (0, 0, r.2.2.1, tn e r.2.2.2) := (if_neg (fun z => z q)).trans (if_neg (fun z => z w))
          rw [eb] at h
          exact fs_seOne2_97 hG ⟨fun z => absurd (fw_c1.symm.trans z) (by decide), fun _ => ⟨fw_11, h.2 rfl σ4 (ev_tr M3 (ev_up M4 (by decide))) E4 ((mk_row M4 (k := 65) (by decide) 4).trans f3) (pk_l p2 (pk_r p3 (pk_k M4 (by decide))))⟩⟩
  have no : ¬ sn_st e p → G 20 [some (2, 65, 0), some (2, 1, 0), some (2, 3, 0), some (0, 0, 9 - ((2 : Nat) : Int)), some (0, 0, sk_v e p), none, none] [(0, 0, 0)] σ := fun y => by
    have en : sn_one A e 2 o p = (1, ev_st e p, o, p) := (sn_one_s A e 1 o p).trans (if_pos y)
    rw [en] at h
    have ek : sk_v e p = -1 := by
      have : ¬ (9 ≤ tw e p ∧ tw e p ≤ 16) := fun z => y (Or.inr z)
      omega
    refine fs_seOne2_20 hG ⟨fun z => absurd (by rw [ek]) z, fun _ => ⟨fun z => absurd fw_c0 z, fun _ => ⟨1, rfl, E.rf (x := 1) (v := 0) (K := fun rv σ2 => G 38 [some (2, 65, 0), some (2, 1, 0), some (2, 3, 0), some (0, 0, 9 - ((2 : Nat) : Int)), some (0, 0, sk_v e p), some (0, 0, 0), none] (rv.toList ++ []) σ2) (by decide) (fun σ' a b c => fs_seOne2_38 hG ⟨fw_01, h.1 (show (1 : Int) ≠ 0 by decide) σ' (ev_up a (by decide)) b c⟩)⟩⟩⟩
  refine ⟨fun z => ?_, fun z => ?_⟩
  · by_cases y : sn_st e p
    · have y2 : 9 ≤ tw e p ∧ tw e p ≤ 16 := y.resolve_left z
      exact fs_seOne2_20 hG ⟨fun _ => go y 0 (Or.inr ⟨rfl, z⟩), fun u => absurd u (by rw [csk, m1]; omega)⟩
    · exact no y
  · have y : sn_st e p := Or.inl z
    have ek : sk_v e p = -1 := by
      have := n40 z
      omega
    exact fs_seOne2_20 hG ⟨fun u => absurd (by rw [ek]) u, fun _ => ⟨fun _ => go y 1 (Or.inl ⟨rfl, z⟩), fun u => absurd (fw_c1.symm.trans u) (by decide)⟩⟩)
theorem fm_seCond2 (hinj : nn_inj ad) : fw_H l cy ad wr cr D 174 10 (sp_seCond 2) := fw_mk hinj (⟨"NameNotes$Sentence", "readCond", "(LNameNotes$Tape;LNameNotes$Studio;I)Z"⟩, prog_7_method_5_code, 8, (Option.some Jvm.ClassFile.FieldType.boolean), 3, true, 1) rfl rfl nn_KI5_ok nn_KJ5_ok nn_PF5_ok nn_PS5_ok (by decide +kernel) rfl rfl (List.forall_mem_cons.mpr ⟨fw_row nn_PM5_ok (x := 52) (k := 0) (mn := 175) (np := 3) (ob := true) (ci := 5) (⟨"NameNotes$Sentence", "readOne", "(LNameNotes$Tape;LNameNotes$Studio;I)Z"⟩, prog_7_method_6_code, 7, (Option.some Jvm.ClassFile.FieldType.boolean), 3, true, 1) rfl (by decide +kernel) rfl rfl (by decide) (fun _ => ⟨_, _, rfl⟩) (fm_seOne2 hinj), (List.forall_mem_cons.mpr ⟨fw_row nn_PM5_ok (x := 61) (k := 0) (mn := 20) (np := 1) (ob := true) (ci := 8) (⟨"NameNotes$Tape", "isWord", "(LNameNotes$Word;)Z"⟩, prog_10_method_10_code, 2, (Option.some Jvm.ClassFile.FieldType.boolean), 1, true, 1) rfl (by decide +kernel) rfl rfl (by decide) (fun _ => ⟨_, _, rfl⟩) (fm_isWord hinj), (List.forall_mem_cons.mpr ⟨fw_row nn_PM5_ok (x := 68) (k := 0) (mn := 177) (np := 2) (ob := true) (ci := 5) (⟨"NameNotes$Sentence", "addStep", "(II)V"⟩, prog_7_method_10_code, 3, (Option.none : Option Jvm.ClassFile.FieldType), 2, true, 4) rfl (by decide +kernel) rfl rfl (by decide) (fun _ => ⟨_, _, rfl⟩) (fm_seAdd hinj), (List.forall_mem_cons.mpr ⟨fw_row nn_PM5_ok (x := 72) (k := 0) (mn := 10) (np := 0) (ob := true) (ci := 8) (⟨"NameNotes$Tape", "step", "()V"⟩, prog_10_method_5_code, 2, (Option.none : Option Jvm.ClassFile.FieldType), 0, true, 4) rfl (by decide +kernel) rfl rfl (by decide) (fun _ => ⟨_, _, rfl⟩) (fm_step hinj), (fun _ h => absurd h List.not_mem_nil)⟩)⟩)⟩)⟩) (fun as σ K h => by
  obtain ⟨A, e, p, o, rfl, hN, E, ⟨h4, ho⟩, h⟩ := h
  have c20 : fw_c 20 = 20 := fw_s (by decide) (by decide)
  have c2 : fw_c 2 = 2 := fw_s (by decide) (by decide)
  have og := sn_one_gr A e 2
  refine ⟨rfl, fun G hG => ?_⟩
  have ex0 : ∀ (τ : ab_SG) (a5 a6 : Int) (o7 : Option ab_AV), (∀ τ' : ab_SG, ab_okM se_M τ τ' → K (some (0, 0, 0)) τ') → G 15 [some (2, 65, 0), some (2, 1, 0), some (2, 3, 0), some (0, 0, 9 - ((2 : Nat) : Int)), some (0, 0, 0), some (0, 0, a5), some (0, 0, a6), o7] [] τ := by
    intro τ a5 a6 o7 k
    have g : G 117 [some (2, 65, 0), some (2, 1, 0), some (2, 3, 0), some (0, 0, 9 - ((2 : Nat) : Int)), some (0, 0, 0), some (0, 0, a5), some (0, 0, a6), o7] [] τ := fs_seCond2_117 hG ⟨fun _ => fs_seCond2_128 hG ⟨fw_01, k τ (fw_okM_refl _ _)⟩, fun _ => ⟨_, _, rfl, fun τ' M _ => fs_seCond2_128 hG ⟨fw_01, k τ' M⟩⟩⟩
    exact fs_seCond2_15 hG ⟨fun _ => g, fun _ => ⟨fun _ => g, fun z => absurd fw_c0 z⟩⟩
  have ex1 : ∀ (τ : ab_SG) (w : Bool) (a6 : Int) (o7 : Option ab_AV), (∀ τ' : ab_SG, ab_okM se_M τ τ' → pk τ τ' (fl w) → K (some (0, 0, 1)) τ') → G 117 [some (2, 65, 0), some (2, 1, 0), some (2, 3, 0), some (0, 0, 9 - ((2 : Nat) : Int)), some (0, 0, 1), some (0, 0, bI w), some (0, 0, a6), o7] [] τ := fun τ w a6 o7 k =>
    fs_seCond2_117 hG ⟨fun z => fs_seCond2_128 hG ⟨fw_11, k τ (fw_okM_refl _ _) (by rw [bI_0 z]; exact pk_0 τ)⟩, fun z => ⟨_, _, rfl, fun τ' M P => fs_seCond2_128 hG ⟨fw_11, k τ' M (by rw [bI_1 z]; exact P c2 fw_c0)⟩⟩⟩
  have add : ∀ {τ τ' : ab_SG}, ab_okM se_M τ τ' → ab_okM sN_M τ τ' := fun M => ev_up M (by decide)
  have loop : ∀ (g i o1 p1 : Nat) (τ : ab_SG) (w : Bool) (L1 : sl_T) (o7 : Option ab_AV), i + g = 20 → i + 1 ≤ o1 → o1 ≤ 20 → ab_okM sN_M σ τ → eD τ e p1 → τ 65 4 = (o1 : Int) → pk σ τ L1 → sn_cd (sn_one A e 2) e o p = sn_lp (sn_one A e 2) e g o1 p1 → sl_cd (sn_one A e 2) (sl_one A e 2) e o p = L1 ++ sl_lp (sn_one A e 2) (sl_one A e 2) e g w o1 p1 → G 15 [some (2, 65, 0), some (2, 1, 0), some (2, 3, 0), some (0, 0, 9 - ((2 : Nat) : Int)), some (0, 0, 1), some (0, 0, bI w), some (0, 0, (i : Int)), o7] [] τ := by
    intro g
    induction g with
    | zero =>
      intro i o1 p1 τ w L1 o7 hi h1 h2 _ _ _ _ _ _
      omega
    | succ g ih =>
      intro i o1 p1 τ w L1 o7 hi h1 h2 M E1 f1 hp hr hL
      have ci : fw_c (i : Int) = (i : Int) := fw_s (by omega) (by omega)
      rw [sn_lps] at hr
      rw [sl_lps] at hL
      have iw : ∀ (τ1 : ab_SG) (x : Int) (Q : fw_KR), eD τ1 e p1 → 0 ≤ x → x ≤ 16 → (tw e p1 = x → Q (some (0, 0, 1)) τ1) → (tw e p1 ≠ x → Q (some (0, 0, 0)) τ1) → sp_isWord [(2, 1, 0), (4, 0, x)] τ1 Q := by
        intro τ1 x Q E2 h1 h2 a b
        have kw := E2.kw
        refine ⟨x, rfl, ⟨kw.2.1, kw.2.2, by omega, h2⟩, ?_⟩
        by_cases c : tw e p1 = x
        · rw [fw_bo_t ((E2.isw h1).mpr c)]
          exact a c
        · rw [fw_bo_f (fun z => c ((E2.isw h1).mp z))]
          exact b c
      have u0 : ∀ {X : Prop}, fw_c 0 ≠ 0 → X := fun z => absurd fw_c0 z
      have u1 : ∀ {X : Prop}, fw_c 1 = 0 → X := fun z => absurd (fw_c1.symm.trans z) (by decide)
      have n1 : fw_c 1 ≠ 0 := fun z => u1 z
      have stop : ¬ (tw e p1 = 8 ∨ tw e p1 = 7) → G 117 [some (2, 65, 0), some (2, 1, 0), some (2, 3, 0), some (0, 0, 9 - ((2 : Nat) : Int)), some (0, 0, 1), some (0, 0, bI w), some (0, 0, (i : Int)), o7] [] τ := fun c => by
        rw [if_neg c] at hr
        rw [if_neg (fun z => c (Or.inl z)), if_neg (fun z => c (Or.inr z))] at hL
        rw [hr, hL] at h
        exact ex1 τ w _ o7 (fun τ' M' P' => h.2 rfl τ' (ev_tr M (add M')) (E1.M M' (by decide) (by decide)) ((mk_at M' (k := 65) (j := 4) (by decide)).trans f1) (pk_tr hp P'))
      have g84 : (tw e p1 = 8 ∨ tw e p1 = 7) → ∀ (τ1 : ab_SG) (a7 b0 : Int) (w2 : Bool) (L2 T : sl_T), fw_op 9 (bI w) b0 = bI w2 → ab_okM sN_M σ τ1 → eD τ1 e p1 → τ1 65 4 = (o1 : Int) → pk σ τ1 L2 → ((fw_c a7 = 0 ∧ T = []) ∨ (fw_c a7 ≠ 0 ∧ T = [(1, 0)])) → sl_cd (sn_one A e 2) (sl_one A e 2) e o p = L2 ++ (sl_one A e 2 o1 (tn e p1) ++ (T ++ sl_lp (sn_one A e 2) (sl_one A e 2) e g w2 (sn_one A e 2 o1 (tn e p1)).2.2.1 (sn_one A e 2 o1 (tn e p1)).2.2.2)) → G 84 [some (2, 65, 0), some (2, 1, 0), some (2, 3, 0), some (0, 0, 9 - ((2 : Nat) : Int)), some (0, 0, 1), some (0, 0, bI w), some (0, 0, (i : Int)), some (0, 0, a7)] [(0, 0, b0), (0, 0, bI w)] τ1 := by
        intro c τ1 a7 b0 w2 L2 T hb M1 E2 f2 hp2 hT hL2
        refine fs_seCond2_84 hG ⟨rfl, E2.st.1, fun τ2 N2 S2 => fs_seCond2_91 hG ?_⟩
        rw [hb]
        have E3 := E2.st.2 τ2 N2 S2
        have M2 : ab_okM sN_M σ τ2 := ev_tr M1 (ev_up N2 (by decide))
        have p2 : pk σ τ2 L2 := pk_r hp2 (pk_k N2 (by decide))
        rw [if_pos c] at hr
        refine ⟨A, e, tn e p1, o1, rfl, ev_NC M2 (by decide +kernel) hN, E3, ⟨(mk_row N2 (k := 65) (by decide) 4).trans f2, h2⟩, fun q σ' M3 a b => ?_, fun q σ' M3 E4 f4 p4 => ?_⟩
        · rw [if_pos q] at hr
          rw [hr] at h
          have k : ∀ τ' : ab_SG, ab_okM se_M σ' τ' → K (some (0, 0, 0)) τ' := fun τ' M' => h.1 q τ' (ev_tr (ev_tr M2 M3) (add M')) ((mk_row M' (k := 1) (by decide) 9).trans a) ((mk_row M' (k := 1) (by decide) 10).trans b)
          exact fs_seCond2_98 hG ⟨fun _ => fs_seCond2_111 hG (ex0 σ' _ _ _ k), fun _ => ⟨_, _, rfl, fun τ' M' _ => fs_seCond2_111 hG (ex0 τ' _ _ _ (fun τ'' M'' => k τ'' (ev_tr M' M'')))⟩⟩
        · rw [if_neg (fun z => z q)] at hr
          have gr := og o1 (tn e p1) h2 q
          have p5 : pk σ σ' (L2 ++ sl_one A e 2 o1 (tn e p1)) := pk_tr p2 p4
          have nx : ∀ τ' : ab_SG, ab_okM sN_M σ τ' → eD τ' e (sn_one A e 2 o1 (tn e p1)).2.2.2 → τ' 65 4 = ((sn_one A e 2 o1 (tn e p1)).2.2.1 : Int) → pk σ τ' (L2 ++ sl_one A e 2 o1 (tn e p1) ++ T) → G 111 [some (2, 65, 0), some (2, 1, 0), some (2, 3, 0), some (0, 0, 9 - ((2 : Nat) : Int)), some (0, 0, 1), some (0, 0, bI w2), some (0, 0, (i : Int)), some (0, 0, a7)] [] τ' := fun τ' M' E' f' p' => fs_seCond2_111 hG (by
            have g := ih (i + 1) _ _ τ' w2 _ (some (0, 0, a7)) (by omega) (by omega) gr.2 M' E' f' p' hr (by rw [hL2, List.append_assoc, List.append_assoc])
            rw [show ((i + 1 : Nat) : Int) = (i : Int) + 1 from rfl] at g
            exact g)
          rcases hT with ⟨z, eT⟩ | ⟨z, eT⟩
          · exact fs_seCond2_98 hG ⟨fun _ => nx σ' (ev_tr M2 M3) E4 f4 (by rw [eT, List.append_nil]; exact p5), fun y => absurd z y⟩
          · exact fs_seCond2_98 hG ⟨fun y => absurd y z, fun _ => ⟨_, _, rfl, fun τ' M' P' => nx τ' (ev_tr (ev_tr M2 M3) (add M')) (E4.M M' (by decide) (by decide)) ((mk_at M' (k := 65) (j := 4) (by decide)).trans f4) (by rw [eT]; exact pk_tr p5 (P' fw_c1 fw_c0))⟩⟩
      -- AND
      have ga : tw e p1 = 8 → G 47 [some (2, 65, 0), some (2, 1, 0), some (2, 3, 0), some (0, 0, 9 - ((2 : Nat) : Int)), some (0, 0, 1), some (0, 0, bI w), some (0, 0, (i : Int)), o7] [] τ := fun c8 => by
        rw [if_pos c8] at hL
        exact fs_seCond2_47 hG (iw τ 8 _ E1 (by decide) (by decide) (fun _ => fs_seCond2_54 hG ⟨fun _ => fs_seCond2_72 hG ⟨fun _ => g84 (Or.inl c8) τ 1 0 w L1 [(1, 0)] (bI_a w) M E1 f1 hp (Or.inr ⟨n1, rfl⟩) hL, u1⟩, u1⟩) (fun z => absurd c8 z))
      -- OR
      have gb : tw e p1 ≠ 8 → tw e p1 = 7 → ∀ τ1 : ab_SG, ab_okM sN_M σ τ1 → eD τ1 e p1 → τ1 65 4 = (o1 : Int) → pk σ τ1 (L1 ++ fl w) → G 72 [some (2, 65, 0), some (2, 1, 0), some (2, 3, 0), some (0, 0, 9 - ((2 : Nat) : Int)), some (0, 0, 1), some (0, 0, bI w), some (0, 0, (i : Int)), some (0, 0, 0)] [] τ1 := fun c8 c7 τ1 M1 E2 f2 hp2 => by
        rw [if_neg c8, if_pos c7] at hL
        exact fs_seCond2_72 hG ⟨u0, fun _ => g84 (Or.inr c7) τ1 0 1 true (L1 ++ fl w) [] (bI_o w) M1 E2 f2 hp2 (Or.inl ⟨fw_c0, rfl⟩) (by rw [List.append_assoc]; exact hL)⟩
      have go : tw e p1 ≠ 8 → tw e p1 = 7 → G 47 [some (2, 65, 0), some (2, 1, 0), some (2, 3, 0), some (0, 0, 9 - ((2 : Nat) : Int)), some (0, 0, 1), some (0, 0, bI w), some (0, 0, (i : Int)), o7] [] τ := fun c8 c7 =>
        fs_seCond2_47 hG (iw τ 8 _ E1 (by decide) (by decide) (fun z => absurd z c8) (fun _ => fs_seCond2_54 hG ⟨u0, fun _ => ⟨fun z => gb c8 c7 τ M E1 f1 (by rw [bI_0 z]; exact pk_tr hp (show pk τ τ (fl false) from pk_0 τ)), fun z => ⟨_, _, rfl, fun τ' M' P' => gb c8 c7 τ' (ev_tr M (add M')) (E1.M M' (by decide) (by decide)) ((mk_at M' (k := 65) (j := 4) (by decide)).trans f1) (by rw [bI_1 z]; exact pk_tr hp (P' c2 fw_c0))⟩⟩⟩))
      refine fs_seCond2_15 hG ⟨fun z => absurd z (by rw [c20, ci]; omega), fun _ => ⟨u1, fun _ => iw τ 8 _ E1 (by decide) (by decide) (fun c => fs_seCond2_34 hG ⟨fun _ => ga c, u1⟩) (fun c8 => fs_seCond2_34 hG ⟨u0, fun _ => iw τ 7 _ E1 (by decide) (by decide) (fun c => fs_seCond2_44 hG ⟨u1, fun _ => go c8 c⟩) (fun c7 => fs_seCond2_44 hG ⟨fun _ => stop (fun z => z.elim c8 c7), u0⟩)⟩)⟩⟩
  exact fs_seCond2_0 hG ⟨A, e, p, o, rfl, hN, E, ⟨h4, ho⟩, fun q σ' M a b => fs_seCond2_7 hG (ex0 σ' 0 0 none (fun τ' M' => by
    have en : sn_cd (sn_one A e 2) e o p = sn_one A e 2 o p := if_pos q
    rw [en] at h
    exact h.1 q τ' (ev_tr M (add M')) ((mk_row M' (k := 1) (by decide) 9).trans a) ((mk_row M' (k := 1) (by decide) 10).trans b))), fun q σ' M E' f' p' => fs_seCond2_7 hG (by
    have gr := og o p ho q
    exact loop 20 0 _ _ σ' false _ none rfl (by omega) gr.2 M E' f' p' (if_neg (fun z => z q)) rfl)⟩)
end
abbrev fk_seOne3 : List fw_CR := [(41, 3, true, 5, 10, sp_seCond 2), (48, 1, true, 8, 0, sp_refuse), (52, 3, true, 5, 9, sp_seOne 2), (68, 2, true, 5, 1, sp_seAdd), (72, 0, true, 8, 2, sp_step), (75, 1, false, 0, 1, sp_seKind), (79, 1, true, 8, 3, sp_takeSign), (82, 3, true, 5, 3, sp_seNamed), (85, 2, true, 5, 3, sp_seMeas)]
abbrev st_seOne3 : fw_K → fw_KR → fw_K := fw_st vwCl nn_sh nn_kd fw_kv fw_wc (nn_KI5.map (fun x => x.1)) (nn_KJ5.map (fun x => x.1)) (nn_PF5.map (fun x => x.1)) (nn_PS5.map (fun x => x.1)) fk_seOne3 11 nn_dt175 7 1
theorem fs_seOne3_0 {G : fw_K} {R : fw_KR} (hG : fw_cls st_seOne3 R G) {d : Int} {σ : ab_SG} (h : sp_seKind [(2, 1, 0)] σ (fun rv σ2 => G 4 [some (2, 65, 0), some (2, 1, 0), some (2, 3, 0), some (0, 0, d), none, none, none] (rv.toList ++ []) σ2)) : G 0 [some (2, 65, 0), some (2, 1, 0), some (2, 3, 0), some (0, 0, d), none, none, none] [] σ := fw_on hG [4, 20, 38, 39, 54, 59, 74, 88, 97, 120, 128, 146, 156] 200 h
theorem fs_seOne3_4 {G : fw_K} {R : fw_KR} (hG : fw_cls st_seOne3 R G) {a3 b0 : Int} {o4 o6 : Option ab_AV} {σ : ab_SG} (h : (fw_c (σ 1 5) ≠ fw_c 40 → G 20 [some (2, 65, 0), some (2, 1, 0), some (2, 3, 0), some (0, 0, a3), some (0, 0, b0), none, o6] [(0, 0, 0)] σ) ∧ (fw_c (σ 1 5) = fw_c 40 → G 20 [some (2, 65, 0), some (2, 1, 0), some (2, 3, 0), some (0, 0, a3), some (0, 0, b0), none, o6] [(0, 0, 1)] σ)) : G 4 [some (2, 65, 0), some (2, 1, 0), some (2, 3, 0), some (0, 0, a3), o4, none, o6] [(0, 0, b0)] σ := fw_on hG [4, 20, 38, 39, 54, 59, 74, 88, 97, 120, 128, 146, 156] 200 h
theorem fs_seOne3_20 {G : fw_K} {R : fw_KR} (hG : fw_cls st_seOne3 R G) {a3 a4 b0 : Int} {o6 : Option ab_AV} {σ : ab_SG} (h : (fw_c a4 ≠ fw_c (-1) → G 39 [some (2, 65, 0), some (2, 1, 0), some (2, 3, 0), some (0, 0, a3), some (0, 0, a4), some (0, 0, b0), o6] [] σ) ∧ (fw_c a4 = fw_c (-1) → (fw_c b0 ≠ 0 → G 39 [some (2, 65, 0), some (2, 1, 0), some (2, 3, 0), some (0, 0, a3), some (0, 0, a4), some (0, 0, b0), o6] [] σ) ∧ (fw_c b0 = 0 → sp_refuse [(2, 1, 0), (0, 0, 1)] σ (fun rv σ2 => G 38 [some (2, 65, 0), some (2, 1, 0), some (2, 3, 0), some (0, 0, a3), some (0, 0, a4), some (0, 0, b0), o6] (rv.toList ++ []) σ2)))) : G 20 [some (2, 65, 0), some (2, 1, 0), some (2, 3, 0), some (0, 0, a3), some (0, 0, a4), none, o6] [(0, 0, b0)] σ := fw_on hG [4, 20, 38, 39, 54, 59, 74, 88, 97, 120, 128, 146, 156] 200 h
theorem fs_seOne3_39 {G : fw_K} {R : fw_KR} (hG : fw_cls st_seOne3 R G) {a3 a4 a5 : Int} {o6 : Option ab_AV} {σ : ab_SG} (h : (fw_c 20 ≤ fw_c (σ 65 4) → G 54 [some (2, 65, 0), some (2, 1, 0), some (2, 3, 0), some (0, 0, a3), some (0, 0, a4), some (0, 0, a5), o6] [] σ) ∧ (fw_c (σ 65 4) < fw_c 20 → (fw_c a3 ≤ fw_c 8 → sp_step [(2, 1, 0)] (ab_ups σ 65 4 (fw_c ((σ 65 4) + 1))) (fun rv σ2 => G 74 [some (2, 65, 0), some (2, 1, 0), some (2, 3, 0), some (0, 0, a3), some (0, 0, a4), some (0, 0, a5), o6] (rv.toList ++ []) σ2)) ∧ (fw_c 8 < fw_c a3 → G 54 [some (2, 65, 0), some (2, 1, 0), some (2, 3, 0), some (0, 0, a3), some (0, 0, a4), some (0, 0, a5), o6] [] σ))) : G 39 [some (2, 65, 0), some (2, 1, 0), some (2, 3, 0), some (0, 0, a3), some (0, 0, a4), some (0, 0, a5), o6] [] σ := fw_on hG [4, 20, 38, 39, 54, 59, 74, 88, 97, 120, 128, 146, 156] 200 h
theorem fs_seOne3_38 {G : fw_K} {R : fw_KR} (hG : fw_cls st_seOne3 R G) {a5 b0 : Int} {o1 o2 o3 o4 o6 : Option ab_AV} {σ : ab_SG} (h : (0 ≤ fw_c b0 ∧ fw_c b0 ≤ 1) ∧ R (some (0, 0, b0)) σ) : G 38 [some (2, 65, 0), o1, o2, o3, o4, some (0, 0, a5), o6] [(0, 0, b0)] σ := fw_on hG [4, 20, 38, 39, 54, 59, 74, 88, 97, 120, 128, 146, 156] 200 h
theorem fs_seOne3_54 {G : fw_K} {R : fw_KR} (hG : fw_cls st_seOne3 R G) {a5 : Int} {o2 o3 o4 o6 : Option ab_AV} {σ : ab_SG} (h : sp_refuse [(2, 1, 0), (0, 0, 4)] σ (fun rv σ2 => G 59 [some (2, 65, 0), some (2, 1, 0), o2, o3, o4, some (0, 0, a5), o6] (rv.toList ++ []) σ2)) : G 54 [some (2, 65, 0), some (2, 1, 0), o2, o3, o4, some (0, 0, a5), o6] [] σ := fw_on hG [4, 20, 38, 39, 54, 59, 74, 88, 97, 120, 128, 146, 156] 200 h
theorem fs_seOne3_74 {G : fw_K} {R : fw_KR} (hG : fw_cls st_seOne3 R G) {a3 a4 a5 : Int} {o6 : Option ab_AV} {σ : ab_SG} (h : (fw_c a5 = 0 → (fw_c a4 ≠ 0 → (fw_c 6 ≤ fw_c a4 → sp_seMeas [(2, 65, 0), (2, 1, 0), (0, 0, a4)] σ (fun rv σ2 => G 156 [some (2, 65, 0), some (2, 1, 0), some (2, 3, 0), some (0, 0, a3), some (0, 0, a4), some (0, 0, a5), o6] (rv.toList ++ []) σ2)) ∧ (fw_c a4 < fw_c 6 → sp_seNamed [(2, 65, 0), (2, 1, 0), (2, 3, 0), (0, 0, a4)] σ (fun rv σ2 => G 146 [some (2, 65, 0), some (2, 1, 0), some (2, 3, 0), some (0, 0, a3), some (0, 0, a4), some (0, 0, a5), o6] (rv.toList ++ []) σ2))) ∧ (fw_c a4 = 0 → sp_seOne 2 [(2, 65, 0), (2, 1, 0), (2, 3, 0), (0, 0, a3 + 1)] σ (fun rv σ2 => G 120 [some (2, 65, 0), some (2, 1, 0), some (2, 3, 0), some (0, 0, a3), some (0, 0, a4), some (0, 0, a5), o6] (rv.toList ++ []) σ2))) ∧ (fw_c a5 ≠ 0 → sp_seCond 2 [(2, 65, 0), (2, 1, 0), (2, 3, 0), (0, 0, a3 + 1)] σ (fun rv σ2 => G 88 [some (2, 65, 0), some (2, 1, 0), some (2, 3, 0), some (0, 0, a3), some (0, 0, a4), some (0, 0, a5), o6] (rv.toList ++ []) σ2))) : G 74 [some (2, 65, 0), some (2, 1, 0), some (2, 3, 0), some (0, 0, a3), some (0, 0, a4), some (0, 0, a5), o6] [] σ := fw_on hG [4, 20, 38, 39, 54, 59, 74, 88, 97, 120, 128, 146, 156] 200 h
theorem fs_seOne3_59 {G : fw_K} {R : fw_KR} (hG : fw_cls st_seOne3 R G) {a5 b0 : Int} {o1 o2 o3 o4 o6 : Option ab_AV} {σ : ab_SG} (h : (0 ≤ fw_c b0 ∧ fw_c b0 ≤ 1) ∧ R (some (0, 0, b0)) σ) : G 59 [some (2, 65, 0), o1, o2, o3, o4, some (0, 0, a5), o6] [(0, 0, b0)] σ := fw_on hG [4, 20, 38, 39, 54, 59, 74, 88, 97, 120, 128, 146, 156] 200 h
theorem fs_seOne3_156 {G : fw_K} {R : fw_KR} (hG : fw_cls st_seOne3 R G) {a5 b0 : Int} {o1 o2 o3 o4 o6 : Option ab_AV} {σ : ab_SG} (h : (0 ≤ fw_c b0 ∧ fw_c b0 ≤ 1) ∧ R (some (0, 0, b0)) σ) : G 156 [some (2, 65, 0), o1, o2, o3, o4, some (0, 0, a5), o6] [(0, 0, b0)] σ := fw_on hG [4, 20, 38, 39, 54, 59, 74, 88, 97, 120, 128, 146, 156] 200 h
theorem fs_seOne3_146 {G : fw_K} {R : fw_KR} (hG : fw_cls st_seOne3 R G) {a5 b0 : Int} {o1 o2 o3 o4 o6 : Option ab_AV} {σ : ab_SG} (h : G 156 [some (2, 65, 0), o1, o2, o3, o4, some (0, 0, a5), o6] [(0, 0, b0)] σ) : G 146 [some (2, 65, 0), o1, o2, o3, o4, some (0, 0, a5), o6] [(0, 0, b0)] σ := fw_on hG [4, 20, 38, 39, 54, 59, 74, 88, 97, 120, 128, 146, 156] 200 h
theorem fs_seOne3_120 {G : fw_K} {R : fw_KR} (hG : fw_cls st_seOne3 R G) {a5 b0 : Int} {o1 o2 o3 o4 o6 : Option ab_AV} {σ : ab_SG} (h : sp_seAdd [(2, 65, 0), (0, 0, 0), (0, 0, 0)] σ (fun rv σ2 => G 128 [some (2, 65, 0), o1, o2, o3, o4, some (0, 0, a5), some (0, 0, b0)] (rv.toList ++ []) σ2)) : G 120 [some (2, 65, 0), o1, o2, o3, o4, some (0, 0, a5), o6] [(0, 0, b0)] σ := fw_on hG [4, 20, 38, 39, 54, 59, 74, 88, 97, 120, 128, 146, 156] 200 h
theorem fs_seOne3_88 {G : fw_K} {R : fw_KR} (hG : fw_cls st_seOne3 R G) {a5 b0 : Int} {o2 o3 o4 o6 : Option ab_AV} {σ : ab_SG} (h : (fw_c b0 = 0 → (0 ≤ fw_c 0 ∧ fw_c 0 ≤ 1) ∧ R (some (0, 0, 0)) σ) ∧ (fw_c b0 ≠ 0 → sp_takeSign [(2, 1, 0), (0, 0, 41)] σ (fun rv σ2 => G 97 [some (2, 65, 0), some (2, 1, 0), o2, o3, o4, some (0, 0, a5), o6] (rv.toList ++ []) σ2))) : G 88 [some (2, 65, 0), some (2, 1, 0), o2, o3, o4, some (0, 0, a5), o6] [(0, 0, b0)] σ := fw_on hG [4, 20, 38, 39, 54, 59, 74, 88, 97, 120, 128, 146, 156] 200 h
theorem fs_seOne3_128 {G : fw_K} {R : fw_KR} (hG : fw_cls st_seOne3 R G) {a5 a6 : Int} {o1 o2 o3 o4 : Option ab_AV} {σ : ab_SG} (h : (0 ≤ fw_c a6 ∧ fw_c a6 ≤ 1) ∧ R (some (0, 0, a6)) σ) : G 128 [some (2, 65, 0), o1, o2, o3, o4, some (0, 0, a5), some (0, 0, a6)] [] σ := fw_on hG [4, 20, 38, 39, 54, 59, 74, 88, 97, 120, 128, 146, 156] 200 h
theorem fs_seOne3_97 {G : fw_K} {R : fw_KR} (hG : fw_cls st_seOne3 R G) {a5 b0 : Int} {o1 o2 o3 o4 o6 : Option ab_AV} {σ : ab_SG} (h : (fw_c b0 = 0 → (0 ≤ fw_c 0 ∧ fw_c 0 ≤ 1) ∧ R (some (0, 0, 0)) σ) ∧ (fw_c b0 ≠ 0 → (0 ≤ fw_c 1 ∧ fw_c 1 ≤ 1) ∧ R (some (0, 0, 1)) σ)) : G 97 [some (2, 65, 0), o1, o2, o3, o4, some (0, 0, a5), o6] [(0, 0, b0)] σ := fw_on hG [4, 20, 38, 39, 54, 59, 74, 88, 97, 120, 128, 146, 156] 200 h
abbrev fk_seCond3 : List fw_CR := [(52, 3, true, 5, 11, sp_seOne 3), (61, 1, true, 8, 0, sp_isWord), (68, 2, true, 5, 1, sp_seAdd), (72, 0, true, 8, 2, sp_step)]
abbrev st_seCond3 : fw_K → fw_KR → fw_K := fw_st vwCl nn_sh nn_kd fw_kv fw_wc (nn_KI5.map (fun x => x.1)) (nn_KJ5.map (fun x => x.1)) (nn_PF5.map (fun x => x.1)) (nn_PS5.map (fun x => x.1)) fk_seCond3 12 nn_dt174 8 1
theorem fs_seCond3_0 {G : fw_K} {R : fw_KR} (hG : fw_cls st_seCond3 R G) {d : Int} {σ : ab_SG} (h : sp_seOne 3 [(2, 65, 0), (2, 1, 0), (2, 3, 0), (0, 0, d)] σ (fun rv σ2 => G 7 [some (2, 65, 0), some (2, 1, 0), some (2, 3, 0), some (0, 0, d), none, none, none, none] (rv.toList ++ []) σ2)) : G 0 [some (2, 65, 0), some (2, 1, 0), some (2, 3, 0), some (0, 0, d), none, none, none, none] [] σ := fw_on hG [7, 15, 34, 44, 47, 54, 72, 84, 91, 98, 111, 117, 128] 200 h
theorem fs_seCond3_7 {G : fw_K} {R : fw_KR} (hG : fw_cls st_seCond3 R G) {a3 b0 : Int} {o5 o6 o7 : Option ab_AV} {σ : ab_SG} (h : G 15 [some (2, 65, 0), some (2, 1, 0), some (2, 3, 0), some (0, 0, a3), some (0, 0, b0), some (0, 0, 0), some (0, 0, 0), o7] [] σ) : G 7 [some (2, 65, 0), some (2, 1, 0), some (2, 3, 0), some (0, 0, a3), none, o5, o6, o7] [(0, 0, b0)] σ := fw_on hG [7, 15, 34, 44, 47, 54, 72, 84, 91, 98, 111, 117, 128] 200 h
theorem fs_seCond3_15 {G : fw_K} {R : fw_KR} (hG : fw_cls st_seCond3 R G) {a3 a4 a5 a6 : Int} {o7 : Option ab_AV} {σ : ab_SG} (h : (fw_c 20 ≤ fw_c a6 → G 117 [some (2, 65, 0), some (2, 1, 0), some (2, 3, 0), some (0, 0, a3), some (0, 0, a4), some (0, 0, a5), some (0, 0, a6), o7] [] σ) ∧ (fw_c a6 < fw_c 20 → (fw_c a4 = 0 → G 117 [some (2, 65, 0), some (2, 1, 0), some (2, 3, 0), some (0, 0, a3), some (0, 0, a4), some (0, 0, a5), some (0, 0, a6), o7] [] σ) ∧ (fw_c a4 ≠ 0 → sp_isWord [(2, 1, 0), (4, 0, 8)] σ (fun rv σ2 => G 34 [some (2, 65, 0), some (2, 1, 0), some (2, 3, 0), some (0, 0, a3), some (0, 0, a4), some (0, 0, a5), some (0, 0, a6), o7] (rv.toList ++ []) σ2)))) : G 15 [some (2, 65, 0), some (2, 1, 0), some (2, 3, 0), some (0, 0, a3), some (0, 0, a4), some (0, 0, a5), some (0, 0, a6), o7] [] σ := fw_on hG [7, 15, 34, 44, 47, 54, 72, 84, 91, 98, 111, 117, 128] 200 h
theorem fs_seCond3_117 {G : fw_K} {R : fw_KR} (hG : fw_cls st_seCond3 R G) {a4 a5 : Int} {o1 o2 o3 o6 o7 : Option ab_AV} {σ : ab_SG} (h : (fw_c a5 = 0 → G 128 [some (2, 65, 0), o1, o2, o3, some (0, 0, a4), some (0, 0, a5), o6, o7] [] σ) ∧ (fw_c a5 ≠ 0 → sp_seAdd [(2, 65, 0), (0, 0, 2), (0, 0, 0)] σ (fun rv σ2 => G 128 [some (2, 65, 0), o1, o2, o3, some (0, 0, a4), some (0, 0, a5), o6, o7] (rv.toList ++ []) σ2))) : G 117 [some (2, 65, 0), o1, o2, o3, some (0, 0, a4), some (0, 0, a5), o6, o7] [] σ := fw_on hG [7, 15, 34, 44, 47, 54, 72, 84, 91, 98, 111, 117, 128] 200 h
theorem fs_seCond3_34 {G : fw_K} {R : fw_KR} (hG : fw_cls st_seCond3 R G) {a3 a4 a5 a6 b0 : Int} {o7 : Option ab_AV} {σ : ab_SG} (h : (fw_c b0 ≠ 0 → G 47 [some (2, 65, 0), some (2, 1, 0), some (2, 3, 0), some (0, 0, a3), some (0, 0, a4), some (0, 0, a5), some (0, 0, a6), o7] [] σ) ∧ (fw_c b0 = 0 → sp_isWord [(2, 1, 0), (4, 0, 7)] σ (fun rv σ2 => G 44 [some (2, 65, 0), some (2, 1, 0), some (2, 3, 0), some (0, 0, a3), some (0, 0, a4), some (0, 0, a5), some (0, 0, a6), o7] (rv.toList ++ []) σ2))) : G 34 [some (2, 65, 0), some (2, 1, 0), some (2, 3, 0), some (0, 0, a3), some (0, 0, a4), some (0, 0, a5), some (0, 0, a6), o7] [(0, 0, b0)] σ := fw_on hG [7, 15, 34, 44, 47, 54, 72, 84, 91, 98, 111, 117, 128] 200 h
theorem fs_seCond3_128 {G : fw_K} {R : fw_KR} (hG : fw_cls st_seCond3 R G) {a4 : Int} {o1 o2 o3 o5 o6 o7 : Option ab_AV} {σ : ab_SG} (h : (0 ≤ fw_c a4 ∧ fw_c a4 ≤ 1) ∧ R (some (0, 0, a4)) σ) : G 128 [some (2, 65, 0), o1, o2, o3, some (0, 0, a4), o5, o6, o7] [] σ := fw_on hG [7, 15, 34, 44, 47, 54, 72, 84, 91, 98, 111, 117, 128] 200 h
theorem fs_seCond3_47 {G : fw_K} {R : fw_KR} (hG : fw_cls st_seCond3 R G) {a3 a4 a5 a6 : Int} {o7 : Option ab_AV} {σ : ab_SG} (h : sp_isWord [(2, 1, 0), (4, 0, 8)] σ (fun rv σ2 => G 54 [some (2, 65, 0), some (2, 1, 0), some (2, 3, 0), some (0, 0, a3), some (0, 0, a4), some (0, 0, a5), some (0, 0, a6), o7] (rv.toList ++ []) σ2)) : G 47 [some (2, 65, 0), some (2, 1, 0), some (2, 3, 0), some (0, 0, a3), some (0, 0, a4), some (0, 0, a5), some (0, 0, a6), o7] [] σ := fw_on hG [7, 15, 34, 44, 47, 54, 72, 84, 91, 98, 111, 117, 128] 200 h
theorem fs_seCond3_44 {G : fw_K} {R : fw_KR} (hG : fw_cls st_seCond3 R G) {a3 a4 a5 a6 b0 : Int} {o7 : Option ab_AV} {σ : ab_SG} (h : (fw_c b0 = 0 → G 117 [some (2, 65, 0), some (2, 1, 0), some (2, 3, 0), some (0, 0, a3), some (0, 0, a4), some (0, 0, a5), some (0, 0, a6), o7] [] σ) ∧ (fw_c b0 ≠ 0 → G 47 [some (2, 65, 0), some (2, 1, 0), some (2, 3, 0), some (0, 0, a3), some (0, 0, a4), some (0, 0, a5), some (0, 0, a6), o7] [] σ)) : G 44 [some (2, 65, 0), some (2, 1, 0), some (2, 3, 0), some (0, 0, a3), some (0, 0, a4), some (0, 0, a5), some (0, 0, a6), o7] [(0, 0, b0)] σ := fw_on hG [7, 15, 34, 44, 47, 54, 72, 84, 91, 98, 111, 117, 128] 200 h
theorem fs_seCond3_54 {G : fw_K} {R : fw_KR} (hG : fw_cls st_seCond3 R G) {a3 a4 a5 a6 b0 : Int} {o7 : Option ab_AV} {σ : ab_SG} (h : (fw_c b0 ≠ 0 → G 72 [some (2, 65, 0), some (2, 1, 0), some (2, 3, 0), some (0, 0, a3), some (0, 0, a4), some (0, 0, a5), some (0, 0, a6), some (0, 0, b0)] [] σ) ∧ (fw_c b0 = 0 → (fw_c a5 = 0 → G 72 [some (2, 65, 0), some (2, 1, 0), some (2, 3, 0), some (0, 0, a3), some (0, 0, a4), some (0, 0, a5), some (0, 0, a6), some (0, 0, b0)] [] σ) ∧ (fw_c a5 ≠ 0 → sp_seAdd [(2, 65, 0), (0, 0, 2), (0, 0, 0)] σ (fun rv σ2 => G 72 [some (2, 65, 0), some (2, 1, 0), some (2, 3, 0), some (0, 0, a3), some (0, 0, a4), some (0, 0, a5), some (0, 0, a6), some (0, 0, b0)] (rv.toList ++ []) σ2)))) : G 54 [some (2, 65, 0), some (2, 1, 0), some (2, 3, 0), some (0, 0, a3), some (0, 0, a4), some (0, 0, a5), some (0, 0, a6), o7] [(0, 0, b0)] σ := fw_on hG [7, 15, 34, 44, 47, 54, 72, 84, 91, 98, 111, 117, 128] 200 h
theorem fs_seCond3_72 {G : fw_K} {R : fw_KR} (hG : fw_cls st_seCond3 R G) {a3 a4 a5 a6 a7 : Int} {σ : ab_SG} (h : (fw_c a7 ≠ 0 → G 84 [some (2, 65, 0), some (2, 1, 0), some (2, 3, 0), some (0, 0, a3), some (0, 0, a4), some (0, 0, a5), some (0, 0, a6), some (0, 0, a7)] [(0, 0, 0), (0, 0, a5)] σ) ∧ (fw_c a7 = 0 → G 84 [some (2, 65, 0), some (2, 1, 0), some (2, 3, 0), some (0, 0, a3), some (0, 0, a4), some (0, 0, a5), some (0, 0, a6), some (0, 0, a7)] [(0, 0, 1), (0, 0, a5)] σ)) : G 72 [some (2, 65, 0), some (2, 1, 0), some (2, 3, 0), some (0, 0, a3), some (0, 0, a4), some (0, 0, a5), some (0, 0, a6), some (0, 0, a7)] [] σ := fw_on hG [7, 15, 34, 44, 47, 54, 72, 84, 91, 98, 111, 117, 128] 200 h
theorem fs_seCond3_84 {G : fw_K} {R : fw_KR} (hG : fw_cls st_seCond3 R G) {a3 a4 a6 a7 b0 b1 : Int} {o5 : Option ab_AV} {σ : ab_SG} (h : sp_step [(2, 1, 0)] σ (fun rv σ2 => G 91 [some (2, 65, 0), some (2, 1, 0), some (2, 3, 0), some (0, 0, a3), some (0, 0, a4), some (0, 0, fw_op 9 b1 b0), some (0, 0, a6), some (0, 0, a7)] (rv.toList ++ []) σ2)) : G 84 [some (2, 65, 0), some (2, 1, 0), some (2, 3, 0), some (0, 0, a3), some (0, 0, a4), o5, some (0, 0, a6), some (0, 0, a7)] [(0, 0, b0), (0, 0, b1)] σ := fw_on hG [7, 15, 34, 44, 47, 54, 72, 84, 91, 98, 111, 117, 128] 200 h
theorem fs_seCond3_91 {G : fw_K} {R : fw_KR} (hG : fw_cls st_seCond3 R G) {a3 a4 a5 a6 a7 : Int} {σ : ab_SG} (h : sp_seOne 3 [(2, 65, 0), (2, 1, 0), (2, 3, 0), (0, 0, a3)] σ (fun rv σ2 => G 98 [some (2, 65, 0), some (2, 1, 0), some (2, 3, 0), some (0, 0, a3), some (0, 0, a4), some (0, 0, a5), some (0, 0, a6), some (0, 0, a7)] (rv.toList ++ []) σ2)) : G 91 [some (2, 65, 0), some (2, 1, 0), some (2, 3, 0), some (0, 0, a3), some (0, 0, a4), some (0, 0, a5), some (0, 0, a6), some (0, 0, a7)] [] σ := fw_on hG [7, 15, 34, 44, 47, 54, 72, 84, 91, 98, 111, 117, 128] 200 h
theorem fs_seCond3_98 {G : fw_K} {R : fw_KR} (hG : fw_cls st_seCond3 R G) {a3 a4 a5 a6 a7 b0 : Int} {σ : ab_SG} (h : (fw_c a7 = 0 → G 111 [some (2, 65, 0), some (2, 1, 0), some (2, 3, 0), some (0, 0, a3), some (0, 0, b0), some (0, 0, a5), some (0, 0, a6), some (0, 0, a7)] [] σ) ∧ (fw_c a7 ≠ 0 → sp_seAdd [(2, 65, 0), (0, 0, 1), (0, 0, 0)] σ (fun rv σ2 => G 111 [some (2, 65, 0), some (2, 1, 0), some (2, 3, 0), some (0, 0, a3), some (0, 0, b0), some (0, 0, a5), some (0, 0, a6), some (0, 0, a7)] (rv.toList ++ []) σ2))) : G 98 [some (2, 65, 0), some (2, 1, 0), some (2, 3, 0), some (0, 0, a3), some (0, 0, a4), some (0, 0, a5), some (0, 0, a6), some (0, 0, a7)] [(0, 0, b0)] σ := fw_on hG [7, 15, 34, 44, 47, 54, 72, 84, 91, 98, 111, 117, 128] 200 h
theorem fs_seCond3_111 {G : fw_K} {R : fw_KR} (hG : fw_cls st_seCond3 R G) {a3 a4 a5 a6 : Int} {o7 : Option ab_AV} {σ : ab_SG} (h : G 15 [some (2, 65, 0), some (2, 1, 0), some (2, 3, 0), some (0, 0, a3), some (0, 0, a4), some (0, 0, a5), some (0, 0, a6 + 1), o7] [] σ) : G 111 [some (2, 65, 0), some (2, 1, 0), some (2, 3, 0), some (0, 0, a3), some (0, 0, a4), some (0, 0, a5), some (0, 0, a6), o7] [] σ := fw_on hG [7, 15, 34, 44, 47, 54, 72, 84, 91, 98, 111, 117, 128] 200 h
section
variable {l : Launch} {cy : Nat → ClassId} {ad wr cr : Nat → Nat} {D : va_G}
theorem fm_seOne3 (hinj : nn_inj ad) : fw_H l cy ad wr cr D 175 11 (sp_seOne 3) := fw_mk hinj (⟨"NameNotes$Sentence", "readOne", "(LNameNotes$Tape;LNameNotes$Studio;I)Z"⟩, prog_7_method_6_code, 7, (Option.some Jvm.ClassFile.FieldType.boolean), 3, true, 1) rfl rfl nn_KI5_ok nn_KJ5_ok nn_PF5_ok nn_PS5_ok (by decide +kernel) rfl rfl (List.forall_mem_cons.mpr ⟨fw_row nn_PM5_ok (x := 41) (k := 0) (mn := 174) (np := 3) (ob := true) (ci := 5) (⟨"NameNotes$Sentence", "readCond", "(LNameNotes$Tape;LNameNotes$Studio;I)Z"⟩, prog_7_method_5_code, 8, (Option.some Jvm.ClassFile.FieldType.boolean), 3, true, 1) rfl (by decide +kernel) rfl rfl (by decide) (fun _ => ⟨_, _, rfl⟩) (fm_seCond2 hinj), (List.forall_mem_cons.mpr ⟨fw_row nn_PM5_ok (x := 48) (k := 0) (mn := 22) (np := 1) (ob := true) (ci := 8) (⟨"NameNotes$Tape", "refuse", "(I)Z"⟩, prog_10_method_14_code, 2, (Option.some Jvm.ClassFile.FieldType.boolean), 1, true, 1) rfl (by decide +kernel) rfl rfl (by decide) (fun _ => ⟨_, _, rfl⟩) (fm_refuse hinj), (List.forall_mem_cons.mpr ⟨fw_row nn_PM5_ok (x := 52) (k := 0) (mn := 175) (np := 3) (ob := true) (ci := 5) (⟨"NameNotes$Sentence", "readOne", "(LNameNotes$Tape;LNameNotes$Studio;I)Z"⟩, prog_7_method_6_code, 7, (Option.some Jvm.ClassFile.FieldType.boolean), 3, true, 1) rfl (by decide +kernel) rfl rfl (by decide) (fun _ => ⟨_, _, rfl⟩) (fm_seOne2 hinj), (List.forall_mem_cons.mpr ⟨fw_row nn_PM5_ok (x := 68) (k := 0) (mn := 177) (np := 2) (ob := true) (ci := 5) (⟨"NameNotes$Sentence", "addStep", "(II)V"⟩, prog_7_method_10_code, 3, (Option.none : Option Jvm.ClassFile.FieldType), 2, true, 4) rfl (by decide +kernel) rfl rfl (by decide) (fun _ => ⟨_, _, rfl⟩) (fm_seAdd hinj), (List.forall_mem_cons.mpr ⟨fw_row nn_PM5_ok (x := 72) (k := 0) (mn := 10) (np := 0) (ob := true) (ci := 8) (⟨"NameNotes$Tape", "step", "()V"⟩, prog_10_method_5_code, 2, (Option.none : Option Jvm.ClassFile.FieldType), 0, true, 4) rfl (by decide +kernel) rfl rfl (by decide) (fun _ => ⟨_, _, rfl⟩) (fm_step hinj), (List.forall_mem_cons.mpr ⟨fw_row nn_PM5_ok (x := 75) (k := 0) (mn := 176) (np := 1) (ob := false) (ci := 0) (⟨"NameNotes$Sentence", "kindOf", "(LNameNotes$Tape;)I"⟩, prog_7_method_9_code, 1, (Option.some Jvm.ClassFile.FieldType.int), 1, false, 0) rfl (by decide +kernel) rfl rfl (by decide) (fun q => by cases q) (fm_seKind hinj), (List.forall_mem_cons.mpr ⟨fw_row nn_PM5_ok (x := 79) (k := 0) (mn := 40) (np := 1) (ob := true) (ci := 8) (⟨"NameNotes$Tape", "takeSign", "(I)Z"⟩, prog_10_method_13_code, 2, (Option.some Jvm.ClassFile.FieldType.boolean), 1, true, 1) rfl (by decide +kernel) rfl rfl (by decide) (fun _ => ⟨_, _, rfl⟩) (fm_takeSign hinj), (List.forall_mem_cons.mpr ⟨fw_row nn_PM5_ok (x := 82) (k := 0) (mn := 178) (np := 3) (ob := true) (ci := 5) (⟨"NameNotes$Sentence", "readNamed", "(LNameNotes$Tape;LNameNotes$Studio;I)Z"⟩, prog_7_method_7_code, 5, (Option.some Jvm.ClassFile.FieldType.boolean), 3, true, 1) rfl (by decide +kernel) rfl rfl (by decide) (fun _ => ⟨_, _, rfl⟩) (fm_seNamed hinj), (List.forall_mem_cons.mpr ⟨fw_row nn_PM5_ok (x := 85) (k := 0) (mn := 179) (np := 2) (ob := true) (ci := 5) (⟨"NameNotes$Sentence", "readMeasured", "(LNameNotes$Tape;I)Z"⟩, prog_7_method_8_code, 4, (Option.some Jvm.ClassFile.FieldType.boolean), 2, true, 1) rfl (by decide +kernel) rfl rfl (by decide) (fun _ => ⟨_, _, rfl⟩) (fm_seMeas hinj), (fun _ h => absurd h List.not_mem_nil)⟩)⟩)⟩)⟩)⟩)⟩)⟩)⟩)⟩) (fun as σ K h => by
  obtain ⟨A, e, p, o, rfl, hN, E, ⟨h4, ho⟩, h⟩ := h
  have tk1 := (tk_can e p).1
  have m1 : fw_c (-1) = -1 := fw_s (by decide) (by decide)
  have c40 : fw_c 40 = 40 := fw_s (by decide) (by decide)
  have c20 : fw_c 20 = 20 := fw_s (by decide) (by decide)
  have c8 : fw_c 8 = 8 := fw_s (by decide) (by decide)
  have c6 : fw_c 6 = 6 := fw_s (by decide) (by decide)
  have cd : fw_c (9 - ((3 : Nat) : Int)) = 9 - ((3 : Nat) : Int) := fw_s (by decide) (by decide)
  have c4 : fw_c (σ 65 4) = (o : Int) := by rw [h4]; exact fw_s (by omega) (by omega)
  have sv := sk_in e p
  have csk : fw_c (sk_v e p) = sk_v e p := fw_s (by omega) (by omega)
  have n40 : (tk e p).1 = 40 → ¬ (9 ≤ tw e p ∧ tw e p ≤ 16) := fun z y => by
    have := tw_k (e := e) (p := p) (by omega)
    omega
  refine ⟨rfl, fun G hG => fs_seOne3_0 hG ⟨e, p, rfl, E, fs_seOne3_4 hG ?_⟩⟩
  rw [E.kind.2, c40]
  have four : sn_st e p → sn_one A e 3 o p = (4, ev_st e p, o, p) → ∀ a5 : Int, G 54 [some (2, 65, 0), some (2, 1, 0), some (2, 3, 0), some (0, 0, 9 - ((3 : Nat) : Int)), some (0, 0, sk_v e p), some (0, 0, a5), none] [] σ := fun y en a5 => by
    rw [en] at h
    exact fs_seOne3_54 hG ⟨4, rfl, E.rf (x := 4) (v := 0) (K := fun rv σ2 => G 59 [some (2, 65, 0), some (2, 1, 0), some (2, 3, 0), some (0, 0, 9 - ((3 : Nat) : Int)), some (0, 0, sk_v e p), some (0, 0, a5), none] (rv.toList ++ []) σ2) (by decide) (fun σ' a b c => fs_seOne3_59 hG ⟨fw_01, h.1 (show (4 : Int) ≠ 0 by decide) σ' (ev_up a (by decide)) b c⟩)⟩
  have go : sn_st e p → ∀ a5 : Int, ((a5 = 1 ∧ (tk e p).1 = 40) ∨ (a5 = 0 ∧ (tk e p).1 ≠ 40)) → G 39 [some (2, 65, 0), some (2, 1, 0), some (2, 3, 0), some (0, 0, 9 - ((3 : Nat) : Int)), some (0, 0, sk_v e p), some (0, 0, a5), none] [] σ := by
    intro y a5 h5
    refine fs_seOne3_39 hG ?_
    rw [c4, c20, c8, cd, h4]
    refine ⟨fun z => four y ?_ a5, fun z => ⟨fun _ => ⟨rfl, ?_⟩, fun z => absurd z (by decide)⟩⟩
    · rw [show sn_one A e 3 o p = _ from sn_one_s A e 2 o p, if_neg (fun w => w y), if_pos (by omega)]
    have en : sn_one A e 3 o p = _ := sn_one_s A e 2 o p
    rw [if_neg (fun w => w y), if_neg (by omega)] at en
    have ln : sl_one A e 3 o p = _ := sl_one_s A e 2 o p
    have co : fw_c ((o : Int) + 1) = ((o + 1 : Nat) : Int) := fw_s (by omega) (by omega)
    rw [co]
    have E1 : eD (ab_ups σ 65 4 ((o + 1 : Nat) : Int)) e p := E.M (M := [(65, 4)]) okM_one (by decide) (by decide)
    have M1 : ab_okM sN_M σ (ab_ups σ 65 4 ((o + 1 : Nat) : Int)) := fw_okM_ups (fw_okM_refl _ _) (by decide)
    have Q1 : ab_okM [(65, 4)] σ (ab_ups σ 65 4 ((o + 1 : Nat) : Int)) := okM_one
    have f1 : (ab_ups σ 65 4 ((o + 1 : Nat) : Int)) 65 4 = ((o + 1 : Nat) : Int) := ab_ups_eq
    generalize ab_ups σ 65 4 ((o + 1 : Nat) : Int) = σ1 at E1 M1 Q1 f1 ⊢
    refine ⟨E1.st.1, fun σ2 N2 S2 => fs_seOne3_74 hG ?_⟩
    have E2 := E1.st.2 σ2 N2 S2
    have M2 : ab_okM sN_M σ σ2 := ev_tr M1 (ev_up N2 (by decide))
    have p2 : pk σ σ2 [] := pk_l (pk_k (M := [(65, 4)]) Q1 (by decide)) (pk_k N2 (by decide))
    have f2 : σ2 65 4 = ((o + 1 : Nat) : Int) := (mk_row N2 (k := 65) (by decide) 4).trans f1
    have N2' : NC σ2 A := ev_NC M2 (by decide +kernel) hN
    rw [csk, c6]
    -- what comes back is told on
    have p156 : ∀ (r : sn_T) (L : sl_T), sn_one A e 3 o p = r → sl_one A e 3 o p = L → sl_post σ2 r L e (fun rv σ3 => G 156 [some (2, 65, 0), some (2, 1, 0), some (2, 3, 0), some (0, 0, 9 - ((3 : Nat) : Int)), some (0, 0, sk_v e p), some (0, 0, a5), none] (rv.toList ++ []) σ3) := by
      intro r L er el
      rw [er, el] at h
      exact ⟨fun q σ' M a b => fs_seOne3_156 hG ⟨fw_01, h.1 q σ' (ev_tr M2 M) a b⟩, fun q σ' M a b c => fs_seOne3_156 hG ⟨fw_11, h.2 q σ' (ev_tr M2 M) a b (pk_l p2 c)⟩⟩
    refine ⟨fun z5 => ?_, fun z5 => ?_⟩
    · have n4 : (tk e p).1 ≠ 40 := by
        rcases h5 with ⟨q, -⟩ | ⟨-, q⟩
        · rw [q] at z5
          exact absurd (fw_c1.symm.trans z5) (by decide)
        · exact q
      have y2 : 9 ≤ tw e p ∧ tw e p ≤ 16 := y.resolve_left n4
      rw [if_neg n4] at en ln
      refine ⟨fun z6 => ⟨fun z7 => ?_, fun z7 => ?_⟩, fun z6 => ?_⟩
      · rw [if_neg (by omega), if_neg (by omega), if_neg (by omega), if_neg (by omega)] at en ln
        exact ⟨e, tn e p, o + 1, _, rfl, ⟨by omega, by omega⟩, E2, f2, p156 _ _ en ln⟩
      · rw [if_neg (by omega)] at en ln
        have nmd : ∀ (r : sn_T) (L : sl_T), sn_one A e 3 o p = r → sl_one A e 3 o p = L → sl_post σ2 r L e (fun rv σ3 => G 146 [some (2, 65, 0), some (2, 1, 0), some (2, 3, 0), some (0, 0, 9 - ((3 : Nat) : Int)), some (0, 0, sk_v e p), some (0, 0, a5), none] (rv.toList ++ []) σ3) := fun r L er el => ⟨fun q σ' M a b => fs_seOne3_146 hG ((p156 r L er el).1 q σ' M a b), fun q σ' M a b c => fs_seOne3_146 hG ((p156 r L er el).2 q σ' M a b c)⟩
        refine ⟨A, e, tn e p, o + 1, _, rfl, N2', E2, f2, ?_⟩
        by_cases w1 : tw e p = 10
        · rw [if_pos w1] at en ln
          exact Or.inl ⟨by omega, nmd _ _ en ln⟩
        rw [if_neg w1] at en ln
        by_cases w2 : tw e p = 11
        · rw [if_pos w2] at en ln
          exact Or.inr (Or.inl ⟨by omega, nmd _ _ en ln⟩)
        rw [if_neg w2, if_pos (by omega)] at en ln
        exact Or.inr (Or.inr ⟨by omega, nmd _ _ en ln⟩)
      · rw [if_pos (by omega)] at en ln
        rw [en, ln] at h
        refine ⟨A, e, tn e p, o + 1, rfl, N2', E2, ⟨f2, by omega⟩, fun q σ' M a b => fs_seOne3_120 hG ⟨0, 0, rfl, fun σ4 M4 _ => fs_seOne3_128 hG ⟨fw_01, h.1 q σ4 (ev_tr (ev_tr M2 M) (ev_up M4 (by decide))) ((mk_row M4 (k := 1) (by decide) 9).trans a) ((mk_row M4 (k := 1) (by decide) 10).trans b)⟩⟩, fun q σ' M a b c => fs_seOne3_120 hG ⟨0, 0, rfl, fun σ4 M4 P4 => fs_seOne3_128 hG ⟨fw_11, h.2 q σ4 (ev_tr (ev_tr M2 M) (ev_up M4 (by decide))) (a.M M4 (by decide) (by decide)) ((mk_at M4 (k := 65) (j := 4) (by decide)).trans b) (pk_tr (pk_l p2 c) (P4 fw_c0 fw_c0))⟩⟩⟩
    · have n4 : (tk e p).1 = 40 := by
        rcases h5 with ⟨-, q⟩ | ⟨q, -⟩
        · exact q
        · rw [q] at z5
          exact absurd fw_c0 z5
      rw [if_pos n4] at en ln
      generalize hr : sn_cd (sn_one A e 2) e (o + 1) (tn e p) = r at en
      rw [en, ln] at h
      refine ⟨A, e, tn e p, o + 1, rfl, N2', E2, ⟨f2, by omega⟩, ?_⟩
      rw [hr]
      refine ⟨fun q σ' M a b => ?_, fun q σ' M E3 f3 p3 => ?_⟩
      · rw [show sn_br e r = r from if_pos q] at h
        exact fs_seOne3_88 hG ⟨fun _ => ⟨fw_01, h.1 q σ' (ev_tr M2 M) a b⟩, fun z => absurd fw_c0 z⟩
      · have M3 : ab_okM sN_M σ σ' := ev_tr M2 M
        refine fs_seOne3_88 hG ⟨fun z => absurd (fw_c1.symm.trans z) (by decide), fun _ => E3.sg (by decide) (fun w σ4 a b c => ?_) (fun w σ4 M4 E4 => ?_)⟩
        · have eb : sn_br e r = (1, ev_st e r.2.2.2, r.2.2.1, r.2.2.2) := (if_neg (fun z => z q)).trans (if_pos w)
          rw [eb] at h
          exact fs_seOne3_97 hG ⟨fun _ => ⟨fw_01, h.1 (show (1 : Int) ≠ 0 by decide) σ4 (ev_tr M3 (ev_up a (by decide))) b c⟩, fun z => absurd fw_c0 z⟩
        · have eb : sn_br e r = (0, 0, r.2.2.1, tn e r.2.2.2) := (if_neg (fun z => z q)).trans (if_neg (fun z => z w))
          rw [eb] at h
          exact fs_seOne3_97 hG ⟨fun z => absurd (fw_c1.symm.trans z) (by decide), fun _ => ⟨fw_11, h.2 rfl σ4 (ev_tr M3 (ev_up M4 (by decide))) E4 ((mk_row M4 (k := 65) (by decide) 4).trans f3) (pk_l p2 (pk_r p3 (pk_k M4 (by decide))))⟩⟩
  have no : ¬ sn_st e p → G 20 [some (2, 65, 0), some (2, 1, 0), some (2, 3, 0), some (0, 0, 9 - ((3 : Nat) : Int)), some (0, 0, sk_v e p), none, none] [(0, 0, 0)] σ := fun y => by
    have en : sn_one A e 3 o p = (1, ev_st e p, o, p) := (sn_one_s A e 2 o p).trans (if_pos y)
    rw [en] at h
    have ek : sk_v e p = -1 := by
      have : ¬ (9 ≤ tw e p ∧ tw e p ≤ 16) := fun z => y (Or.inr z)
      omega
    refine fs_seOne3_20 hG ⟨fun z => absurd (by rw [ek]) z, fun _ => ⟨fun z => absurd fw_c0 z, fun _ => ⟨1, rfl, E.rf (x := 1) (v := 0) (K := fun rv σ2 => G 38 [some (2, 65, 0), some (2, 1, 0), some (2, 3, 0), some (0, 0, 9 - ((3 : Nat) : Int)), some (0, 0, sk_v e p), some (0, 0, 0), none] (rv.toList ++ []) σ2) (by decide) (fun σ' a b c => fs_seOne3_38 hG ⟨fw_01, h.1 (show (1 : Int) ≠ 0 by decide) σ' (ev_up a (by decide)) b c⟩)⟩⟩⟩
  refine ⟨fun z => ?_, fun z => ?_⟩
  · by_cases y : sn_st e p
    · have y2 : 9 ≤ tw e p ∧ tw e p ≤ 16 := y.resolve_left z
      exact fs_seOne3_20 hG ⟨fun _ => go y 0 (Or.inr ⟨rfl, z⟩), fun u => absurd u (by rw [csk, m1]; omega)⟩
    · exact no y
  · have y : sn_st e p := Or.inl z
    have ek : sk_v e p = -1 := by
      have := n40 z
      omega
    exact fs_seOne3_20 hG ⟨fun u => absurd (by rw [ek]) u, fun _ => ⟨fun _ => go y 1 (Or.inl ⟨rfl, z⟩), fun u => absurd (fw_c1.symm.trans u) (by decide)⟩⟩)
theorem fm_seCond3 (hinj : nn_inj ad) : fw_H l cy ad wr cr D 174 12 (sp_seCond 3) := fw_mk hinj (⟨"NameNotes$Sentence", "readCond", "(LNameNotes$Tape;LNameNotes$Studio;I)Z"⟩, prog_7_method_5_code, 8, (Option.some Jvm.ClassFile.FieldType.boolean), 3, true, 1) rfl rfl nn_KI5_ok nn_KJ5_ok nn_PF5_ok nn_PS5_ok (by decide +kernel) rfl rfl (List.forall_mem_cons.mpr ⟨fw_row nn_PM5_ok (x := 52) (k := 0) (mn := 175) (np := 3) (ob := true) (ci := 5) (⟨"NameNotes$Sentence", "readOne", "(LNameNotes$Tape;LNameNotes$Studio;I)Z"⟩, prog_7_method_6_code, 7, (Option.some Jvm.ClassFile.FieldType.boolean), 3, true, 1) rfl (by decide +kernel) rfl rfl (by decide) (fun _ => ⟨_, _, rfl⟩) (fm_seOne3 hinj), (List.forall_mem_cons.mpr ⟨fw_row nn_PM5_ok (x := 61) (k := 0) (mn := 20) (np := 1) (ob := true) (ci := 8) (⟨"NameNotes$Tape", "isWord", "(LNameNotes$Word;)Z"⟩, prog_10_method_10_code, 2, (Option.some Jvm.ClassFile.FieldType.boolean), 1, true, 1) rfl (by decide +kernel) rfl rfl (by decide) (fun _ => ⟨_, _, rfl⟩) (fm_isWord hinj), (List.forall_mem_cons.mpr ⟨fw_row nn_PM5_ok (x := 68) (k := 0) (mn := 177) (np := 2) (ob := true) (ci := 5) (⟨"NameNotes$Sentence", "addStep", "(II)V"⟩, prog_7_method_10_code, 3, (Option.none : Option Jvm.ClassFile.FieldType), 2, true, 4) rfl (by decide +kernel) rfl rfl (by decide) (fun _ => ⟨_, _, rfl⟩) (fm_seAdd hinj), (List.forall_mem_cons.mpr ⟨fw_row nn_PM5_ok (x := 72) (k := 0) (mn := 10) (np := 0) (ob := true) (ci := 8) (⟨"NameNotes$Tape", "step", "()V"⟩, prog_10_method_5_code, 2, (Option.none : Option Jvm.ClassFile.FieldType), 0, true, 4) rfl (by decide +kernel) rfl rfl (by decide) (fun _ => ⟨_, _, rfl⟩) (fm_step hinj), (fun _ h => absurd h List.not_mem_nil)⟩)⟩)⟩)⟩) (fun as σ K h => by
  obtain ⟨A, e, p, o, rfl, hN, E, ⟨h4, ho⟩, h⟩ := h
  have c20 : fw_c 20 = 20 := fw_s (by decide) (by decide)
  have c2 : fw_c 2 = 2 := fw_s (by decide) (by decide)
  have og := sn_one_gr A e 3
  refine ⟨rfl, fun G hG => ?_⟩
  have ex0 : ∀ (τ : ab_SG) (a5 a6 : Int) (o7 : Option ab_AV), (∀ τ' : ab_SG, ab_okM se_M τ τ' → K (some (0, 0, 0)) τ') → G 15 [some (2, 65, 0), some (2, 1, 0), some (2, 3, 0), some (0, 0, 9 - ((3 : Nat) : Int)), some (0, 0, 0), some (0, 0, a5), some (0, 0, a6), o7] [] τ := by
    intro τ a5 a6 o7 k
    have g : G 117 [some (2, 65, 0), some (2, 1, 0), some (2, 3, 0), some (0, 0, 9 - ((3 : Nat) : Int)), some (0, 0, 0), some (0, 0, a5), some (0, 0, a6), o7] [] τ := fs_seCond3_117 hG ⟨fun _ => fs_seCond3_128 hG ⟨fw_01, k τ (fw_okM_refl _ _)⟩, fun _ => ⟨_, _, rfl, fun τ' M _ => fs_seCond3_128 hG ⟨fw_01, k τ' M⟩⟩⟩
    exact fs_seCond3_15 hG ⟨fun _ => g, fun _ => ⟨fun _ => g, fun z => absurd fw_c0 z⟩⟩
  have ex1 : ∀ (τ : ab_SG) (w : Bool) (a6 : Int) (o7 : Option ab_AV), (∀ τ' : ab_SG, ab_okM se_M τ τ' → pk τ τ' (fl w) → K (some (0, 0, 1)) τ') → G 117 [some (2, 65, 0), some (2, 1, 0), some (2, 3, 0), some (0, 0, 9 - ((3 : Nat) : Int)), some (0, 0, 1), some (0, 0, bI w), some (0, 0, a6), o7] [] τ := fun τ w a6 o7 k =>
    fs_seCond3_117 hG ⟨fun z => fs_seCond3_128 hG ⟨fw_11, k τ (fw_okM_refl _ _) (by rw [bI_0 z]; exact pk_0 τ)⟩, fun z => ⟨_, _, rfl, fun τ' M P => fs_seCond3_128 hG ⟨fw_11, k τ' M (by rw [bI_1 z]; exact P c2 fw_c0)⟩⟩⟩
  have add : ∀ {τ τ' : ab_SG}, ab_okM se_M τ τ' → ab_okM sN_M τ τ' := fun M => ev_up M (by decide)
  have loop : ∀ (g i o1 p1 : Nat) (τ : ab_SG) (w : Bool) (L1 : sl_T) (o7 : Option ab_AV), i + g = 20 → i + 1 ≤ o1 → o1 ≤ 20 → ab_okM sN_M σ τ → eD τ e p1 → τ 65 4 = (o1 : Int) → pk σ τ L1 → sn_cd (sn_one A e 3) e o p = sn_lp (sn_one A e 3) e g o1 p1 → sl_cd (sn_one A e 3) (sl_one A e 3) e o p = L1 ++ sl_lp (sn_one A e 3) (sl_one A e 3) e g w o1 p1 → G 15 [some (2, 65, 0), some (2, 1, 0), some (2, 3, 0), some (0, 0, 9 - ((3 : Nat) : Int)), some (0, 0, 1), some (0, 0, bI w), some (0, 0, (i : Int)), o7] [] τ := by
    intro g
    induction g with
    | zero =>
      intro i o1 p1 τ w L1 o7 hi h1 h2 _ _ _ _ _ _
      omega
    | succ g ih =>
      intro i o1 p1 τ w L1 o7 hi h1 h2 M E1 f1 hp hr hL
      have ci : fw_c (i : Int) = (i : Int) := fw_s (by omega) (by omega)
      rw [sn_lps] at hr
      rw [sl_lps] at hL
      have iw : ∀ (τ1 : ab_SG) (x : Int) (Q : fw_KR), eD τ1 e p1 → 0 ≤ x → x ≤ 16 → (tw e p1 = x → Q (some (0, 0, 1)) τ1) → (tw e p1 ≠ x → Q (some (0, 0, 0)) τ1) → sp_isWord [(2, 1, 0), (4, 0, x)] τ1 Q := by
        intro τ1 x Q E2 h1 h2 a b
        have kw := E2.kw
        refine ⟨x, rfl, ⟨kw.2.1, kw.2.2, by omega, h2⟩, ?_⟩
        by_cases c : tw e p1 = x
        · rw [fw_bo_t ((E2.isw h1).mpr c)]
          exact a c
        · rw [fw_bo_f (fun z => c ((E2.isw h1).mp z))]
          exact b c
      have u0 : ∀ {X : Prop}, fw_c 0 ≠ 0 → X := fun z => absurd fw_c0 z
      have u1 : ∀ {X : Prop}, fw_c 1 = 0 → X := fun z => absurd (fw_c1.symm.trans z) (by decide)
      have n1 : fw_c 1 ≠ 0 := fun z => u1 z
      have stop : ¬ (tw e p1 = 8 ∨ tw e p1 = 7) → G 117 [some (2, 65, 0), some (2, 1, 0), some (2, 3, 0), some (0, 0, 9 - ((3 : Nat) : Int)), some (0, 0, 1), some (0, 0, bI w), some (0, 0, (i : Int)), o7] [] τ := fun c => by
        rw [if_neg c] at hr
        rw [if_neg (fun z => c (Or.inl z)), if_neg (fun z => c (Or.inr z))] at hL
        rw [hr, hL] at h
        exact ex1 τ w _ o7 (fun τ' M' P' => h.2 rfl τ' (ev_tr M (add M')) (E1.M M' (by decide) (by decide)) ((mk_at M' (k := 65) (j := 4) (by decide)).trans f1) (pk_tr hp P'))
      have g84 : (tw e p1 = 8 ∨ tw e p1 = 7) → ∀ (τ1 : ab_SG) (a7 b0 : Int) (w2 : Bool) (L2 T : sl_T), fw_op 9 (bI w) b0 = bI w2 → ab_okM sN_M σ τ1 → eD τ1 e p1 → τ1 65 4 = (o1 : Int) → pk σ τ1 L2 → ((fw_c a7 = 0 ∧ T = []) ∨ (fw_c a7 ≠ 0 ∧ T = [(1, 0)])) → sl_cd (sn_one A e 3) (sl_one A e 3) e o p = L2 ++ (sl_one A e 3 o1 (tn e p1) ++ (T ++ sl_lp (sn_one A e 3) (sl_one A e 3) e g w2 (sn_one A e 3 o1 (tn e p1)).2.2.1 (sn_one A e 3 o1 (tn e p1)).2.2.2)) → G 84 [some (2, 65, 0), some (2, 1, 0), some (2, 3, 0), some (0, 0, 9 - ((3 : Nat) : Int)), some (0, 0, 1), some (0, 0, bI w), some (0, 0, (i : Int)), some (0, 0, a7)] [(0, 0, b0), (0, 0, bI w)] τ1 := by
        intro c τ1 a7 b0 w2 L2 T hb M1 E2 f2 hp2 hT hL2
        refine fs_seCond3_84 hG ⟨rfl, E2.st.1, fun τ2 N2 S2 => fs_seCond3_91 hG ?_⟩
        rw [hb]
        have E3 := E2.st.2 τ2 N2 S2
        have M2 : ab_okM sN_M σ τ2 := ev_tr M1 (ev_up N2 (by decide))
        have p2 : pk σ τ2 L2 := pk_r hp2 (pk_k N2 (by decide))
        rw [if_pos c] at hr
        refine ⟨A, e, tn e p1, o1, rfl, ev_NC M2 (by decide +kernel) hN, E3, ⟨(mk_row N2 (k := 65) (by decide) 4).trans f2, h2⟩, fun q σ' M3 a b => ?_, fun q σ' M3 E4 f4 p4 => ?_⟩
        · rw [if_pos q] at hr
          rw [hr] at h
          have k : ∀ τ' : ab_SG, ab_okM se_M σ' τ' → K (some (0, 0, 0)) τ' := fun τ' M' => h.1 q τ' (ev_tr (ev_tr M2 M3) (add M')) ((mk_row M' (k := 1) (by decide) 9).trans a) ((mk_row M' (k := 1) (by decide) 10).trans b)
          exact fs_seCond3_98 hG ⟨fun _ => fs_seCond3_111 hG (ex0 σ' _ _ _ k), fun _ => ⟨_, _, rfl, fun τ' M' _ => fs_seCond3_111 hG (ex0 τ' _ _ _ (fun τ'' M'' => k τ'' (ev_tr M' M'')))⟩⟩
        · rw [if_neg (fun z => z q)] at hr
          have gr := og o1 (tn e p1) h2 q
          have p5 : pk σ σ' (L2 ++ sl_one A e 3 o1 (tn e p1)) := pk_tr p2 p4
          have nx : ∀ τ' : ab_SG, ab_okM sN_M σ τ' → eD τ' e (sn_one A e 3 o1 (tn e p1)).2.2.2 → τ' 65 4 = ((sn_one A e 3 o1 (tn e p1)).2.2.1 : Int) → pk σ τ' (L2 ++ sl_one A e 3 o1 (tn e p1) ++ T) → G 111 [some (2, 65, 0), some (2, 1, 0), some (2, 3, 0), some (0, 0, 9 - ((3 : Nat) : Int)), some (0, 0, 1), some (0, 0, bI w2), some (0, 0, (i : Int)), some (0, 0, a7)] [] τ' := fun τ' M' E' f' p' => fs_seCond3_111 hG (by
            have g := ih (i + 1) _ _ τ' w2 _ (some (0, 0, a7)) (by omega) (by omega) gr.2 M' E' f' p' hr (by rw [hL2, List.append_assoc, List.append_assoc])
            rw [show ((i + 1 : Nat) : Int) = (i : Int) + 1 from rfl] at g
            exact g)
          rcases hT with ⟨z, eT⟩ | ⟨z, eT⟩
          · exact fs_seCond3_98 hG ⟨fun _ => nx σ' (ev_tr M2 M3) E4 f4 (by rw [eT, List.append_nil]; exact p5), fun y => absurd z y⟩
          · exact fs_seCond3_98 hG ⟨fun y => absurd y z, fun _ => ⟨_, _, rfl, fun τ' M' P' => nx τ' (ev_tr (ev_tr M2 M3) (add M')) (E4.M M' (by decide) (by decide)) ((mk_at M' (k := 65) (j := 4) (by decide)).trans f4) (by rw [eT]; exact pk_tr p5 (P' fw_c1 fw_c0))⟩⟩
      -- AND
      have ga : tw e p1 = 8 → G 47 [some (2, 65, 0), some (2, 1, 0), some (2, 3, 0), some (0, 0, 9 - ((3 : Nat) : Int)), some (0, 0, 1), some (0, 0, bI w), some (0, 0, (i : Int)), o7] [] τ := fun c8 => by
        rw [if_pos c8] at hL
        exact fs_seCond3_47 hG (iw τ 8 _ E1 (by decide) (by decide) (fun _ => fs_seCond3_54 hG ⟨fun _ => fs_seCond3_72 hG ⟨fun _ => g84 (Or.inl c8) τ 1 0 w L1 [(1, 0)] (bI_a w) M E1 f1 hp (Or.inr ⟨n1, rfl⟩) hL, u1⟩, u1⟩) (fun z => absurd c8 z))
      -- OR
      have gb : tw e p1 ≠ 8 → tw e p1 = 7 → ∀ τ1 : ab_SG, ab_okM sN_M σ τ1 → eD τ1 e p1 → τ1 65 4 = (o1 : Int) → pk σ τ1 (L1 ++ fl w) → G 72 [some (2, 65, 0), some (2, 1, 0), some (2, 3, 0), some (0, 0, 9 - ((3 : Nat) : Int)), some (0, 0, 1), some (0, 0, bI w), some (0, 0, (i : Int)), some (0, 0, 0)] [] τ1 := fun c8 c7 τ1 M1 E2 f2 hp2 => by
        rw [if_neg c8, if_pos c7] at hL
        exact fs_seCond3_72 hG ⟨u0, fun _ => g84 (Or.inr c7) τ1 0 1 true (L1 ++ fl w) [] (bI_o w) M1 E2 f2 hp2 (Or.inl ⟨fw_c0, rfl⟩) (by rw [List.append_assoc]; exact hL)⟩
      have go : tw e p1 ≠ 8 → tw e p1 = 7 → G 47 [some (2, 65, 0), some (2, 1, 0), some (2, 3, 0), some (0, 0, 9 - ((3 : Nat) : Int)), some (0, 0, 1), some (0, 0, bI w), some (0, 0, (i : Int)), o7] [] τ := fun c8 c7 =>
        fs_seCond3_47 hG (iw τ 8 _ E1 (by decide) (by decide) (fun z => absurd z c8) (fun _ => fs_seCond3_54 hG ⟨u0, fun _ => ⟨fun z => gb c8 c7 τ M E1 f1 (by rw [bI_0 z]; exact pk_tr hp (show pk τ τ (fl false) from pk_0 τ)), fun z => ⟨_, _, rfl, fun τ' M' P' => gb c8 c7 τ' (ev_tr M (add M')) (E1.M M' (by decide) (by decide)) ((mk_at M' (k := 65) (j := 4) (by decide)).trans f1) (by rw [bI_1 z]; exact pk_tr hp (P' c2 fw_c0))⟩⟩⟩))
      refine fs_seCond3_15 hG ⟨fun z => absurd z (by rw [c20, ci]; omega), fun _ => ⟨u1, fun _ => iw τ 8 _ E1 (by decide) (by decide) (fun c => fs_seCond3_34 hG ⟨fun _ => ga c, u1⟩) (fun c8 => fs_seCond3_34 hG ⟨u0, fun _ => iw τ 7 _ E1 (by decide) (by decide) (fun c => fs_seCond3_44 hG ⟨u1, fun _ => go c8 c⟩) (fun c7 => fs_seCond3_44 hG ⟨fun _ => stop (fun z => z.elim c8 c7), u0⟩)⟩)⟩⟩
  exact fs_seCond3_0 hG ⟨A, e, p, o, rfl, hN, E, ⟨h4, ho⟩, fun q σ' M a b => fs_seCond3_7 hG (ex0 σ' 0 0 none (fun τ' M' => by
    have en : sn_cd (sn_one A e 3) e o p = sn_one A e 3 o p := if_pos q
    rw [en] at h
    exact h.1 q τ' (ev_tr M (add M')) ((mk_row M' (k := 1) (by decide) 9).trans a) ((mk_row M' (k := 1) (by decide) 10).trans b))), fun q σ' M E' f' p' => fs_seCond3_7 hG (by
    have gr := og o p ho q
    exact loop 20 0 _ _ σ' false _ none rfl (by omega) gr.2 M E' f' p' (if_neg (fun z => z q)) rfl)⟩)
end
abbrev fk_seOne4 : List fw_CR := [(41, 3, true, 5, 12, sp_seCond 3), (48, 1, true, 8, 0, sp_refuse), (52, 3, true, 5, 11, sp_seOne 3), (68, 2, true, 5, 1, sp_seAdd), (72, 0, true, 8, 2, sp_step), (75, 1, false, 0, 1, sp_seKind), (79, 1, true, 8, 3, sp_takeSign), (82, 3, true, 5, 3, sp_seNamed), (85, 2, true, 5, 3, sp_seMeas)]
abbrev st_seOne4 : fw_K → fw_KR → fw_K := fw_st vwCl nn_sh nn_kd fw_kv fw_wc (nn_KI5.map (fun x => x.1)) (nn_KJ5.map (fun x => x.1)) (nn_PF5.map (fun x => x.1)) (nn_PS5.map (fun x => x.1)) fk_seOne4 13 nn_dt175 7 1
theorem fs_seOne4_0 {G : fw_K} {R : fw_KR} (hG : fw_cls st_seOne4 R G) {d : Int} {σ : ab_SG} (h : sp_seKind [(2, 1, 0)] σ (fun rv σ2 => G 4 [some (2, 65, 0), some (2, 1, 0), some (2, 3, 0), some (0, 0, d), none, none, none] (rv.toList ++ []) σ2)) : G 0 [some (2, 65, 0), some (2, 1, 0), some (2, 3, 0), some (0, 0, d), none, none, none] [] σ := fw_on hG [4, 20, 38, 39, 54, 59, 74, 88, 97, 120, 128, 146, 156] 200 h
theorem fs_seOne4_4 {G : fw_K} {R : fw_KR} (hG : fw_cls st_seOne4 R G) {a3 b0 : Int} {o4 o6 : Option ab_AV} {σ : ab_SG} (h : (fw_c (σ 1 5) ≠ fw_c 40 → G 20 [some (2, 65, 0), some (2, 1, 0), some (2, 3, 0), some (0, 0, a3), some (0, 0, b0), none, o6] [(0, 0, 0)] σ) ∧ (fw_c (σ 1 5) = fw_c 40 → G 20 [some (2, 65, 0), some (2, 1, 0), some (2, 3, 0), some (0, 0, a3), some (0, 0, b0), none, o6] [(0, 0, 1)] σ)) : G 4 [some (2, 65, 0), some (2, 1, 0), some (2, 3, 0), some (0, 0, a3), o4, none, o6] [(0, 0, b0)] σ := fw_on hG [4, 20, 38, 39, 54, 59, 74, 88, 97, 120, 128, 146, 156] 200 h
theorem fs_seOne4_20 {G : fw_K} {R : fw_KR} (hG : fw_cls st_seOne4 R G) {a3 a4 b0 : Int} {o6 : Option ab_AV} {σ : ab_SG} (h : (fw_c a4 ≠ fw_c (-1) → G 39 [some (2, 65, 0), some (2, 1, 0), some (2, 3, 0), some (0, 0, a3), some (0, 0, a4), some (0, 0, b0), o6] [] σ) ∧ (fw_c a4 = fw_c (-1) → (fw_c b0 ≠ 0 → G 39 [some (2, 65, 0), some (2, 1, 0), some (2, 3, 0), some (0, 0, a3), some (0, 0, a4), some (0, 0, b0), o6] [] σ) ∧ (fw_c b0 = 0 → sp_refuse [(2, 1, 0), (0, 0, 1)] σ (fun rv σ2 => G 38 [some (2, 65, 0), some (2, 1, 0), some (2, 3, 0), some (0, 0, a3), some (0, 0, a4), some (0, 0, b0), o6] (rv.toList ++ []) σ2)))) : G 20 [some (2, 65, 0), some (2, 1, 0), some (2, 3, 0), some (0, 0, a3), some (0, 0, a4), none, o6] [(0, 0, b0)] σ := fw_on hG [4, 20, 38, 39, 54, 59, 74, 88, 97, 120, 128, 146, 156] 200 h
theorem fs_seOne4_39 {G : fw_K} {R : fw_KR} (hG : fw_cls st_seOne4 R G) {a3 a4 a5 : Int} {o6 : Option ab_AV} {σ : ab_SG} (h : (fw_c 20 ≤ fw_c (σ 65 4) → G 54 [some (2, 65, 0), some (2, 1, 0), some (2, 3, 0), some (0, 0, a3), some (0, 0, a4), some (0, 0, a5), o6] [] σ) ∧ (fw_c (σ 65 4) < fw_c 20 → (fw_c a3 ≤ fw_c 8 → sp_step [(2, 1, 0)] (ab_ups σ 65 4 (fw_c ((σ 65 4) + 1))) (fun rv σ2 => G 74 [some (2, 65, 0), some (2, 1, 0), some (2, 3, 0), some (0, 0, a3), some (0, 0, a4), some (0, 0, a5), o6] (rv.toList ++ []) σ2)) ∧ (fw_c 8 < fw_c a3 → G 54 [some (2, 65, 0), some (2, 1, 0), some (2, 3, 0), some (0, 0, a3), some (0, 0, a4), some (0, 0, a5), o6] [] σ))) : G 39 [some (2, 65, 0), some (2, 1, 0), some (2, 3, 0), some (0, 0, a3), some (0, 0, a4), some (0, 0, a5), o6] [] σ := fw_on hG [4, 20, 38, 39, 54, 59, 74, 88, 97, 120, 128, 146, 156] 200 h
theorem fs_seOne4_38 {G : fw_K} {R : fw_KR} (hG : fw_cls st_seOne4 R G) {a5 b0 : Int} {o1 o2 o3 o4 o6 : Option ab_AV} {σ : ab_SG} (h : (0 ≤ fw_c b0 ∧ fw_c b0 ≤ 1) ∧ R (some (0, 0, b0)) σ) : G 38 [some (2, 65, 0), o1, o2, o3, o4, some (0, 0, a5), o6] [(0, 0, b0)] σ := fw_on hG [4, 20, 38, 39, 54, 59, 74, 88, 97, 120, 128, 146, 156] 200 h
theorem fs_seOne4_54 {G : fw_K} {R : fw_KR} (hG : fw_cls st_seOne4 R G) {a5 : Int} {o2 o3 o4 o6 : Option ab_AV} {σ : ab_SG} (h : sp_refuse [(2, 1, 0), (0, 0, 4)] σ (fun rv σ2 => G 59 [some (2, 65, 0), some (2, 1, 0), o2, o3, o4, some (0, 0, a5), o6] (rv.toList ++ []) σ2)) : G 54 [some (2, 65, 0), some (2, 1, 0), o2, o3, o4, some (0, 0, a5), o6] [] σ := fw_on hG [4, 20, 38, 39, 54, 59, 74, 88, 97, 120, 128, 146, 156] 200 h
theorem fs_seOne4_74 {G : fw_K} {R : fw_KR} (hG : fw_cls st_seOne4 R G) {a3 a4 a5 : Int} {o6 : Option ab_AV} {σ : ab_SG} (h : (fw_c a5 = 0 → (fw_c a4 ≠ 0 → (fw_c 6 ≤ fw_c a4 → sp_seMeas [(2, 65, 0), (2, 1, 0), (0, 0, a4)] σ (fun rv σ2 => G 156 [some (2, 65, 0), some (2, 1, 0), some (2, 3, 0), some (0, 0, a3), some (0, 0, a4), some (0, 0, a5), o6] (rv.toList ++ []) σ2)) ∧ (fw_c a4 < fw_c 6 → sp_seNamed [(2, 65, 0), (2, 1, 0), (2, 3, 0), (0, 0, a4)] σ (fun rv σ2 => G 146 [some (2, 65, 0), some (2, 1, 0), some (2, 3, 0), some (0, 0, a3), some (0, 0, a4), some (0, 0, a5), o6] (rv.toList ++ []) σ2))) ∧ (fw_c a4 = 0 → sp_seOne 3 [(2, 65, 0), (2, 1, 0), (2, 3, 0), (0, 0, a3 + 1)] σ (fun rv σ2 => G 120 [some (2, 65, 0), some (2, 1, 0), some (2, 3, 0), some (0, 0, a3), some (0, 0, a4), some (0, 0, a5), o6] (rv.toList ++ []) σ2))) ∧ (fw_c a5 ≠ 0 → sp_seCond 3 [(2, 65, 0), (2, 1, 0), (2, 3, 0), (0, 0, a3 + 1)] σ (fun rv σ2 => G 88 [some (2, 65, 0), some (2, 1, 0), some (2, 3, 0), some (0, 0, a3), some (0, 0, a4), some (0, 0, a5), o6] (rv.toList ++ []) σ2))) : G 74 [some (2, 65, 0), some (2, 1, 0), some (2, 3, 0), some (0, 0, a3), some (0, 0, a4), some (0, 0, a5), o6] [] σ := fw_on hG [4, 20, 38, 39, 54, 59, 74, 88, 97, 120, 128, 146, 156] 200 h
theorem fs_seOne4_59 {G : fw_K} {R : fw_KR} (hG : fw_cls st_seOne4 R G) {a5 b0 : Int} {o1 o2 o3 o4 o6 : Option ab_AV} {σ : ab_SG} (h : (0 ≤ fw_c b0 ∧ fw_c b0 ≤ 1) ∧ R (some (0, 0, b0)) σ) : G 59 [some (2, 65, 0), o1, o2, o3, o4, some (0, 0, a5), o6] [(0, 0, b0)] σ := fw_on hG [4, 20, 38, 39, 54, 59, 74, 88, 97, 120, 128, 146, 156] 200 h
theorem fs_seOne4_156 {G : fw_K} {R : fw_KR} (hG : fw_cls st_seOne4 R G) {a5 b0 : Int} {o1 o2 o3 o4 o6 : Option ab_AV} {σ : ab_SG} (h : (0 ≤ fw_c b0 ∧ fw_c b0 ≤ 1) ∧ R (some (0, 0, b0)) σ) : G 156 [some (2, 65, 0), o1, o2, o3, o4, some (0, 0, a5), o6] [(0, 0, b0)] σ := fw_on hG [4, 20, 38, 39, 54, 59, 74, 88, 97, 120, 128, 146, 156] 200 h
theorem fs_seOne4_146 {G : fw_K} {R : fw_KR} (hG : fw_cls st_seOne4 R G) {a5 b0 : Int} {o1 o2 o3 o4 o6 : Option ab_AV} {σ : ab_SG} (h : G 156 [some (2, 65, 0), o1, o2, o3, o4, some (0, 0, a5), o6] [(0, 0, b0)] σ) : G 146 [some (2, 65, 0), o1, o2, o3, o4, some (0, 0, a5), o6] [(0, 0, b0)] σ := fw_on hG [4, 20, 38, 39, 54, 59, 74, 88, 97, 120, 128, 146, 156] 200 h
theorem fs_seOne4_120 {G : fw_K} {R : fw_KR} (hG : fw_cls st_seOne4 R G) {a5 b0 : Int} {o1 o2 o3 o4 o6 : Option ab_AV} {σ : ab_SG} (h : sp_seAdd [(2, 65, 0), (0, 0, 0), (0, 0, 0)] σ (fun rv σ2 => G 128 [some (2, 65, 0), o1, o2, o3, o4, some (0, 0, a5), some (0, 0, b0)] (rv.toList ++ []) σ2)) : G 120 [some (2, 65, 0), o1, o2, o3, o4, some (0, 0, a5), o6] [(0, 0, b0)] σ := fw_on hG [4, 20, 38, 39, 54, 59, 74, 88, 97, 120, 128, 146, 156] 200 h
theorem fs_seOne4_88 {G : fw_K} {R : fw_KR} (hG : fw_cls st_seOne4 R G) {a5 b0 : Int} {o2 o3 o4 o6 : Option ab_AV} {σ : ab_SG} (h : (fw_c b0 = 0 → (0 ≤ fw_c 0 ∧ fw_c 0 ≤ 1) ∧ R (some (0, 0, 0)) σ) ∧ (fw_c b0 ≠ 0 → sp_takeSign [(2, 1, 0), (0, 0, 41)] σ (fun rv σ2 => G 97 [some (2, 65, 0), some (2, 1, 0), o2, o3, o4, some (0, 0, a5), o6] (rv.toList ++ []) σ2))) : G 88 [some (2, 65, 0), some (2, 1, 0), o2, o3, o4, some (0, 0, a5), o6] [(0, 0, b0)] σ := fw_on hG [4, 20, 38, 39, 54, 59, 74, 88, 97, 120, 128, 146, 156] 200 h
theorem fs_seOne4_128 {G : fw_K} {R : fw_KR} (hG : fw_cls st_seOne4 R G) {a5 a6 : Int} {o1 o2 o3 o4 : Option ab_AV} {σ : ab_SG} (h : (0 ≤ fw_c a6 ∧ fw_c a6 ≤ 1) ∧ R (some (0, 0, a6)) σ) : G 128 [some (2, 65, 0), o1, o2, o3, o4, some (0, 0, a5), some (0, 0, a6)] [] σ := fw_on hG [4, 20, 38, 39, 54, 59, 74, 88, 97, 120, 128, 146, 156] 200 h
theorem fs_seOne4_97 {G : fw_K} {R : fw_KR} (hG : fw_cls st_seOne4 R G) {a5 b0 : Int} {o1 o2 o3 o4 o6 : Option ab_AV} {σ : ab_SG} (h : (fw_c b0 = 0 → (0 ≤ fw_c 0 ∧ fw_c 0 ≤ 1) ∧ R (some (0, 0, 0)) σ) ∧ (fw_c b0 ≠ 0 → (0 ≤ fw_c 1 ∧ fw_c 1 ≤ 1) ∧ R (some (0, 0, 1)) σ)) : G 97 [some (2, 65, 0), o1, o2, o3, o4, some (0, 0, a5), o6] [(0, 0, b0)] σ := fw_on hG [4, 20, 38, 39, 54, 59, 74, 88, 97, 120, 128, 146, 156] 200 h
abbrev fk_seCond4 : List fw_CR := [(52, 3, true, 5, 13, sp_seOne 4), (61, 1, true, 8, 0, sp_isWord), (68, 2, true, 5, 1, sp_seAdd), (72, 0, true, 8, 2, sp_step)]
abbrev st_seCond4 : fw_K → fw_KR → fw_K := fw_st vwCl nn_sh nn_kd fw_kv fw_wc (nn_KI5.map (fun x => x.1)) (nn_KJ5.map (fun x => x.1)) (nn_PF5.map (fun x => x.1)) (nn_PS5.map (fun x => x.1)) fk_seCond4 14 nn_dt174 8 1
theorem fs_seCond4_0 {G : fw_K} {R : fw_KR} (hG : fw_cls st_seCond4 R G) {d : Int} {σ : ab_SG} (h : sp_seOne 4 [(2, 65, 0), (2, 1, 0), (2, 3, 0), (0, 0, d)] σ (fun rv σ2 => G 7 [some (2, 65, 0), some (2, 1, 0), some (2, 3, 0), some (0, 0, d), none, none, none, none] (rv.toList ++ []) σ2)) : G 0 [some (2, 65, 0), some (2, 1, 0), some (2, 3, 0), some (0, 0, d), none, none, none, none] [] σ := fw_on hG [7, 15, 34, 44, 47, 54, 72, 84, 91, 98, 111, 117, 128] 200 h
theorem fs_seCond4_7 {G : fw_K} {R : fw_KR} (hG : fw_cls st_seCond4 R G) {a3 b0 : Int} {o5 o6 o7 : Option ab_AV} {σ : ab_SG} (h : G 15 [some (2, 65, 0), some (2, 1, 0), some (2, 3, 0), some (0, 0, a3), some (0, 0, b0), some (0, 0, 0), some (0, 0, 0), o7] [] σ) : G 7 [some (2, 65, 0), some (2, 1, 0), some (2, 3, 0), some (0, 0, a3), none, o5, o6, o7] [(0, 0, b0)] σ := fw_on hG [7, 15, 34, 44, 47, 54, 72, 84, 91, 98, 111, 117, 128] 200 h
theorem fs_seCond4_15 {G : fw_K} {R : fw_KR} (hG : fw_cls st_seCond4 R G) {a3 a4 a5 a6 : Int} {o7 : Option ab_AV} {σ : ab_SG} (h : (fw_c 20 ≤ fw_c a6 → G 117 [some (2, 65, 0), some (2, 1, 0), some (2, 3, 0), some (0, 0, a3), some (0, 0, a4), some (0, 0, a5), some (0, 0, a6), o7] [] σ) ∧ (fw_c a6 < fw_c 20 → (fw_c a4 = 0 → G 117 [some (2, 65, 0), some (2, 1, 0), some (2, 3, 0), some (0, 0, a3), some (0, 0, a4), some (0, 0, a5), some (0, 0, a6), o7] [] σ) ∧ (fw_c a4 ≠ 0 → sp_isWord [(2, 1, 0), (4, 0, 8)] σ (fun rv σ2 => G 34 [some (2, 65, 0), some (2, 1, 0), some (2, 3, 0), some (0, 0, a3), some (0, 0, a4), some (0, 0, a5), some (0, 0, a6), o7] (rv.toList ++ []) σ2)))) : G 15 [some (2, 65, 0), some (2, 1, 0), some (2, 3, 0), some (0, 0, a3), some (0, 0, a4), some (0, 0, a5), some (0, 0, a6), o7] [] σ := fw_on hG [7, 15, 34, 44, 47, 54, 72, 84, 91, 98, 111, 117, 128] 200 h
theorem fs_seCond4_117 {G : fw_K} {R : fw_KR} (hG : fw_cls st_seCond4 R G) {a4 a5 : Int} {o1 o2 o3 o6 o7 : Option ab_AV} {σ : ab_SG} (h : (fw_c a5 = 0 → G 128 [some (2, 65, 0), o1, o2, o3, some (0, 0, a4), some (0, 0, a5), o6, o7] [] σ) ∧ (fw_c a5 ≠ 0 → sp_seAdd [(2, 65, 0), (0, 0, 2), (0, 0, 0)] σ (fun rv σ2 => G 128 [some (2, 65, 0), o1, o2, o3, some (0, 0, a4), some (0, 0, a5), o6, o7] (rv.toList ++ []) σ2))) : G 117 [some (2, 65, 0), o1, o2, o3, some (0, 0, a4), some (0, 0, a5), o6, o7] [] σ := fw_on hG [7, 15, 34, 44, 47, 54, 72, 84, 91, 98, 111, 117, 128] 200 h
theorem fs_seCond4_34 {G : fw_K} {R : fw_KR} (hG : fw_cls st_seCond4 R G) {a3 a4 a5 a6 b0 : Int} {o7 : Option ab_AV} {σ : ab_SG} (h : (fw_c b0 ≠ 0 → G 47 [some (2, 65, 0), some (2, 1, 0), some (2, 3, 0), some (0, 0, a3), some (0, 0, a4), some (0, 0, a5), some (0, 0, a6), o7] [] σ) ∧ (fw_c b0 = 0 → sp_isWord [(2, 1, 0), (4, 0, 7)] σ (fun rv σ2 => G 44 [some (2, 65, 0), some (2, 1, 0), some (2, 3, 0), some (0, 0, a3), some (0, 0, a4), some (0, 0, a5), some (0, 0, a6), o7] (rv.toList ++ []) σ2))) : G 34 [some (2, 65, 0), some (2, 1, 0), some (2, 3, 0), some (0, 0, a3), some (0, 0, a4), some (0, 0, a5), some (0, 0, a6), o7] [(0, 0, b0)] σ := fw_on hG [7, 15, 34, 44, 47, 54, 72, 84, 91, 98, 111, 117, 128] 200 h
theorem fs_seCond4_128 {G : fw_K} {R : fw_KR} (hG : fw_cls st_seCond4 R G) {a4 : Int} {o1 o2 o3 o5 o6 o7 : Option ab_AV} {σ : ab_SG} (h : (0 ≤ fw_c a4 ∧ fw_c a4 ≤ 1) ∧ R (some (0, 0, a4)) σ) : G 128 [some (2, 65, 0), o1, o2, o3, some (0, 0, a4), o5, o6, o7] [] σ := fw_on hG [7, 15, 34, 44, 47, 54, 72, 84, 91, 98, 111, 117, 128] 200 h
theorem fs_seCond4_47 {G : fw_K} {R : fw_KR} (hG : fw_cls st_seCond4 R G) {a3 a4 a5 a6 : Int} {o7 : Option ab_AV} {σ : ab_SG} (h : sp_isWord [(2, 1, 0), (4, 0, 8)] σ (fun rv σ2 => G 54 [some (2, 65, 0), some (2, 1, 0), some (2, 3, 0), some (0, 0, a3), some (0, 0, a4), some (0, 0, a5), some (0, 0, a6), o7] (rv.toList ++ []) σ2)) : G 47 [some (2, 65, 0), some (2, 1, 0), some (2, 3, 0), some (0, 0, a3), some (0, 0, a4), some (0, 0, a5), some (0, 0, a6), o7] [] σ := fw_on hG [7, 15, 34, 44, 47, 54, 72, 84, 91, 98, 111, 117, 128] 200 h
theorem fs_seCond4_44 {G : fw_K} {R : fw_KR} (hG : fw_cls st_seCond4 R G) {a3 a4 a5 a6 b0 : Int} {o7 : Option ab_AV} {σ : ab_SG} (h : (fw_c b0 = 0 → G 117 [some (2, 65, 0), some (2, 1, 0), some (2, 3, 0), some (0, 0, a3), some (0, 0, a4), some (0, 0, a5), some (0, 0, a6), o7] [] σ) ∧ (fw_c b0 ≠ 0 → G 47 [some (2, 65, 0), some (2, 1, 0), some (2, 3, 0), some (0, 0, a3), some (0, 0, a4), some (0, 0, a5), some (0, 0, a6), o7] [] σ)) : G 44 [some (2, 65, 0), some (2, 1, 0), some (2, 3, 0), some (0, 0, a3), some (0, 0, a4), some (0, 0, a5), some (0, 0, a6), o7] [(0, 0, b0)] σ := fw_on hG [7, 15, 34, 44, 47, 54, 72, 84, 91, 98, 111, 117, 128] 200 h
theorem fs_seCond4_54 {G : fw_K} {R : fw_KR} (hG : fw_cls st_seCond4 R G) {a3 a4 a5 a6 b0 : Int} {o7 : Option ab_AV} {σ : ab_SG} (h : (fw_c b0 ≠ 0 → G 72 [some (2, 65, 0), some (2, 1, 0), some (2, 3, 0), some (0, 0, a3), some (0, 0, a4), some (0, 0, a5), some (0, 0, a6), some (0, 0, b0)] [] σ) ∧ (fw_c b0 = 0 → (fw_c a5 = 0 → G 72 [some (2, 65, 0), some (2, 1, 0), some (2, 3, 0), some (0, 0, a3), some (0, 0, a4), some (0, 0, a5), some (0, 0, a6), some (0, 0, b0)] [] σ) ∧ (fw_c a5 ≠ 0 → sp_seAdd [(2, 65, 0), (0, 0, 2), (0, 0, 0)] σ (fun rv σ2 => G 72 [some (2, 65, 0), some (2, 1, 0), some (2, 3, 0), some (0, 0, a3), some (0, 0, a4), some (0, 0, a5), some (0, 0, a6), some (0, 0, b0)] (rv.toList ++ []) σ2)))) : G 54 [some (2, 65, 0), some (2, 1, 0), some (2, 3, 0), some (0, 0, a3), some (0, 0, a4), some (0, 0, a5), some (0, 0, a6), o7] [(0, 0, b0)] σ := fw_on hG [7, 15, 34, 44, 47, 54, 72, 84, 91, 98, 111, 117, 128] 200 h
theorem fs_seCond4_72 {G : fw_K} {R : fw_KR} (hG : fw_cls st_seCond4 R G) {a3 a4 a5 a6 a7 : Int} {σ : ab_SG} (h : (fw_c a7 ≠ 0 → G 84 [some (2, 65, 0), some (2, 1, 0), some (2, 3, 0), some (0, 0, a3), some (0, 0, a4), some (0, 0, a5), some (0, 0, a6), some (0, 0, a7)] [(0, 0, 0), (0, 0, a5)] σ) ∧ (fw_c a7 = 0 → G 84 [some (2, 65, 0), some (2, 1, 0), some (2, 3, 0), some (0, 0, a3), some (0, 0, a4), some (0, 0, a5), some (0, 0, a6), some (0, 0, a7)] [(0, 0, 1), (0, 0, a5)] σ)) : G 72 [some (2, 65, 0), some (2, 1, 0), some (2, 3, 0), some (0, 0, a3), some (0, 0, a4), some (0, 0, a5), some (0, 0, a6), some (0, 0, a7)] [] σ := fw_on hG [7, 15, 34, 44, 47, 54, 72, 84, 91, 98, 111, 117, 128] 200 h
theorem fs_seCond4_84 {G : fw_K} {R : fw_KR} (hG : fw_cls st_seCond4 R G) {a3 a4 a6 a7 b0 b1 : Int} {o5 : Option ab_AV} {σ : ab_SG} (h : sp_step [(2, 1, 0)] σ (fun rv σ2 => G 91 [some (2, 65, 0), some (2, 1, 0), some (2, 3, 0), some (0, 0, a3), some (0, 0, a4), some (0, 0, fw_op 9 b1 b0), some (0, 0, a6), some (0, 0, a7)] (rv.toList ++ []) σ2)) : G 84 [some (2, 65, 0), some (2, 1, 0), some (2, 3, 0), some (0, 0, a3), some (0, 0, a4), o5, some (0, 0, a6), some (0, 0, a7)] [(0, 0, b0), (0, 0, b1)] σ := fw_on hG [7, 15, 34, 44, 47, 54, 72, 84, 91, 98, 111, 117, 128] 200 h
theorem fs_seCond4_91 {G : fw_K} {R : fw_KR} (hG : fw_cls st_seCond4 R G) {a3 a4 a5 a6 a7 : Int} {σ : ab_SG} (h : sp_seOne 4 [(2, 65, 0), (2, 1, 0), (2, 3, 0), (0, 0, a3)] σ (fun rv σ2 => G 98 [some (2, 65, 0), some (2, 1, 0), some (2, 3, 0), some (0, 0, a3), some (0, 0, a4), some (0, 0, a5), some (0, 0, a6), some (0, 0, a7)] (rv.toList ++ []) σ2)) : G 91 [some (2, 65, 0), some (2, 1, 0), some (2, 3, 0), some (0, 0, a3), some (0, 0, a4), some (0, 0, a5), some (0, 0, a6), some (0, 0, a7)] [] σ := fw_on hG [7, 15, 34, 44, 47, 54, 72, 84, 91, 98, 111, 117, 128] 200 h
theorem fs_seCond4_98 {G : fw_K} {R : fw_KR} (hG : fw_cls st_seCond4 R G) {a3 a4 a5 a6 a7 b0 : Int} {σ : ab_SG} (h : (fw_c a7 = 0 → G 111 [some (2, 65, 0), some (2, 1, 0), some (2, 3, 0), some (0, 0, a3), some (0, 0, b0), some (0, 0, a5), some (0, 0, a6), some (0, 0, a7)] [] σ) ∧ (fw_c a7 ≠ 0 → sp_seAdd [(2, 65, 0), (0, 0, 1), (0, 0, 0)] σ (fun rv σ2 => G 111 [some (2, 65, 0), some (2, 1, 0), some (2, 3, 0), some (0, 0, a3), some (0, 0, b0), some (0, 0, a5), some (0, 0, a6), some (0, 0, a7)] (rv.toList ++ []) σ2))) : G 98 [some (2, 65, 0), some (2, 1, 0), some (2, 3, 0), some (0, 0, a3), some (0, 0, a4), some (0, 0, a5), some (0, 0, a6), some (0, 0, a7)] [(0, 0, b0)] σ := fw_on hG [7, 15, 34, 44, 47, 54, 72, 84, 91, 98, 111, 117, 128] 200 h
theorem fs_seCond4_111 {G : fw_K} {R : fw_KR} (hG : fw_cls st_seCond4 R G) {a3 a4 a5 a6 : Int} {o7 : Option ab_AV} {σ : ab_SG} (h : G 15 [some (2, 65, 0), some (2, 1, 0), some (2, 3, 0), some (0, 0, a3), some (0, 0, a4), some (0, 0, a5), some (0, 0, a6 + 1), o7] [] σ) : G 111 [some (2, 65, 0), some (2, 1, 0), some (2, 3, 0), some (0, 0, a3), some (0, 0, a4), some (0, 0, a5), some (0, 0, a6), o7] [] σ := fw_on hG [7, 15, 34, 44, 47, 54, 72, 84, 91, 98, 111, 117, 128] 200 h
section
variable {l : Launch} {cy : Nat → ClassId} {ad wr cr : Nat → Nat} {D : va_G}
theorem fm_seOne4 (hinj : nn_inj ad) : fw_H l cy ad wr cr D 175 13 (sp_seOne 4) := fw_mk hinj (⟨"NameNotes$Sentence", "readOne", "(LNameNotes$Tape;LNameNotes$Studio;I)Z"⟩, prog_7_method_6_code, 7, (Option.some Jvm.ClassFile.FieldType.boolean), 3, true, 1) rfl rfl nn_KI5_ok nn_KJ5_ok nn_PF5_ok nn_PS5_ok (by decide +kernel) rfl rfl (List.forall_mem_cons.mpr ⟨fw_row nn_PM5_ok (x := 41) (k := 0) (mn := 174) (np := 3) (ob := true) (ci := 5) (⟨"NameNotes$Sentence", "readCond", "(LNameNotes$Tape;LNameNotes$Studio;I)Z"⟩, prog_7_method_5_code, 8, (Option.some Jvm.ClassFile.FieldType.boolean), 3, true, 1) rfl (by decide +kernel) rfl rfl (by decide) (fun _ => ⟨_, _, rfl⟩) (fm_seCond3 hinj), (List.forall_mem_cons.mpr ⟨fw_row nn_PM5_ok (x := 48) (k := 0) (mn := 22) (np := 1) (ob := true) (ci := 8) (⟨"NameNotes$Tape", "refuse", "(I)Z"⟩, prog_10_method_14_code, 2, (Option.some Jvm.ClassFile.FieldType.boolean), 1, true, 1) rfl (by decide +kernel) rfl rfl (by decide) (fun _ => ⟨_, _, rfl⟩) (fm_refuse hinj), (List.forall_mem_cons.mpr ⟨fw_row nn_PM5_ok (x := 52) (k := 0) (mn := 175) (np := 3) (ob := true) (ci := 5) (⟨"NameNotes$Sentence", "readOne", "(LNameNotes$Tape;LNameNotes$Studio;I)Z"⟩, prog_7_method_6_code, 7, (Option.some Jvm.ClassFile.FieldType.boolean), 3, true, 1) rfl (by decide +kernel) rfl rfl (by decide) (fun _ => ⟨_, _, rfl⟩) (fm_seOne3 hinj), (List.forall_mem_cons.mpr ⟨fw_row nn_PM5_ok (x := 68) (k := 0) (mn := 177) (np := 2) (ob := true) (ci := 5) (⟨"NameNotes$Sentence", "addStep", "(II)V"⟩, prog_7_method_10_code, 3, (Option.none : Option Jvm.ClassFile.FieldType), 2, true, 4) rfl (by decide +kernel) rfl rfl (by decide) (fun _ => ⟨_, _, rfl⟩) (fm_seAdd hinj), (List.forall_mem_cons.mpr ⟨fw_row nn_PM5_ok (x := 72) (k := 0) (mn := 10) (np := 0) (ob := true) (ci := 8) (⟨"NameNotes$Tape", "step", "()V"⟩, prog_10_method_5_code, 2, (Option.none : Option Jvm.ClassFile.FieldType), 0, true, 4) rfl (by decide +kernel) rfl rfl (by decide) (fun _ => ⟨_, _, rfl⟩) (fm_step hinj), (List.forall_mem_cons.mpr ⟨fw_row nn_PM5_ok (x := 75) (k := 0) (mn := 176) (np := 1) (ob := false) (ci := 0) (⟨"NameNotes$Sentence", "kindOf", "(LNameNotes$Tape;)I"⟩, prog_7_method_9_code, 1, (Option.some Jvm.ClassFile.FieldType.int), 1, false, 0) rfl (by decide +kernel) rfl rfl (by decide) (fun q => by cases q) (fm_seKind hinj), (List.forall_mem_cons.mpr ⟨fw_row nn_PM5_ok (x := 79) (k := 0) (mn := 40) (np := 1) (ob := true) (ci := 8) (⟨"NameNotes$Tape", "takeSign", "(I)Z"⟩, prog_10_method_13_code, 2, (Option.some Jvm.ClassFile.FieldType.boolean), 1, true, 1) rfl (by decide +kernel) rfl rfl (by decide) (fun _ => ⟨_, _, rfl⟩) (fm_takeSign hinj), (List.forall_mem_cons.mpr ⟨fw_row nn_PM5_ok (x := 82) (k := 0) (mn := 178) (np := 3) (ob := true) (ci := 5) (⟨"NameNotes$Sentence", "readNamed", "(LNameNotes$Tape;LNameNotes$Studio;I)Z"⟩, prog_7_method_7_code, 5, (Option.some Jvm.ClassFile.FieldType.boolean), 3, true, 1) rfl (by decide +kernel) rfl rfl (by decide) (fun _ => ⟨_, _, rfl⟩) (fm_seNamed hinj), (List.forall_mem_cons.mpr ⟨fw_row nn_PM5_ok (x := 85) (k := 0) (mn := 179) (np := 2) (ob := true) (ci := 5) (⟨"NameNotes$Sentence", "readMeasured", "(LNameNotes$Tape;I)Z"⟩, prog_7_method_8_code, 4, (Option.some Jvm.ClassFile.FieldType.boolean), 2, true, 1) rfl (by decide +kernel) rfl rfl (by decide) (fun _ => ⟨_, _, rfl⟩) (fm_seMeas hinj), (fun _ h => absurd h List.not_mem_nil)⟩)⟩)⟩)⟩)⟩)⟩)⟩)⟩)⟩) (fun as σ K h => by
  obtain ⟨A, e, p, o, rfl, hN, E, ⟨h4, ho⟩, h⟩ := h
  have tk1 := (tk_can e p).1
  have m1 : fw_c (-1) = -1 := fw_s (by decide) (by decide)
  have c40 : fw_c 40 = 40 := fw_s (by decide) (by decide)
  have c20 : fw_c 20 = 20 := fw_s (by decide) (by decide)
  have c8 : fw_c 8 = 8 := fw_s (by decide) (by decide)
  have c6 : fw_c 6 = 6 := fw_s (by decide) (by decide)
  have cd : fw_c (9 - ((4 : Nat) : Int)) = 9 - ((4 : Nat) : Int) := fw_s (by decide) (by decide)
  have c4 : fw_c (σ 65 4) = (o : Int) := by rw [h4]; exact fw_s (by omega) (by omega)
  have sv := sk_in e p
  have csk : fw_c (sk_v e p) = sk_v e p := fw_s (by omega) (by omega)
  have n40 : (tk e p).1 = 40 → ¬ (9 ≤ tw e p ∧ tw e p ≤ 16) := fun z y => by
    have := tw_k (e := e) (p := p) (by omega)
    omega
  refine ⟨rfl, fun G hG => fs_seOne4_0 hG ⟨e, p, rfl, E, fs_seOne4_4 hG ?_⟩⟩
  rw [E.kind.2, c40]
  have four : sn_st e p → sn_one A e 4 o p = (4, ev_st e p, o, p) → ∀ a5 : Int, G 54 [some (2, 65, 0), some (2, 1, 0), some (2, 3, 0), some (0, 0, 9 - ((4 : Nat) : Int)), some (0, 0, sk_v e p), some (0, 0, a5), none] [] σ := fun y en a5 => by
    rw [en] at h
    exact fs_seOne4_54 hG ⟨4, rfl, E.rf (x := 4) (v := 0) (K := fun rv σ2 => G 59 [some (2, 65, 0), some (2, 1, 0), some (2, 3, 0), some (0, 0, 9 - ((4 : Nat) : Int)), some (0, 0, sk_v e p), some (0, 0, a5), none] (rv.toList ++ []) σ2) (by decide) (fun σ' a b c => fs_seOne4_59 hG ⟨fw_01, h.1 (show (4 : Int) ≠ 0 by decide) σ' (ev_up a (by decide)) b c⟩)⟩
  have go : sn_st e p → ∀ a5 : Int, ((a5 = 1 ∧ (tk e p).1 = 40) ∨ (a5 = 0 ∧ (tk e p).1 ≠ 40)) → G 39 [some (2, 65, 0), some (2, 1, 0), some (2, 3, 0), some (0, 0, 9 - ((4 : Nat) : Int)), some (0, 0, sk_v e p), some (0, 0, a5), none] [] σ := by
    intro y a5 h5
    refine fs_seOne4_39 hG ?_
    rw [c4, c20, c8, cd, h4]
    refine ⟨fun z => four y ?_ a5, fun z => ⟨fun _ => ⟨rfl, ?_⟩, fun z => absurd z (by decide)⟩⟩
    · rw [show sn_one A e 4 o p = _ from sn_one_s A e 3 o p, if_neg (fun w => w y), if_pos (by omega)]
    have en : sn_one A e 4 o p = _ := sn_one_s A e 3 o p
    rw [if_neg (fun w => w y), if_neg (by omega)] at en
    have ln : sl_one A e 4 o p = _ := sl_one_s A e 3 o p
    have co : fw_c ((o : Int) + 1) = ((o + 1 : Nat) : Int) := fw_s (by omega) (by omega)
    rw [co]
    have E1 : eD (ab_ups σ 65 4 ((o + 1 : Nat) : Int)) e p := E.M (M := [(65, 4)]) okM_one (by decide) (by decide)
    have M1 : ab_okM sN_M σ (ab_ups σ 65 4 ((o + 1 : Nat) : Int)) := fw_okM_ups (fw_okM_refl _ _) (by decide)
    have Q1 : ab_okM [(65, 4)] σ (ab_ups σ 65 4 ((o + 1 : Nat) : Int)) := okM_one
    have f1 : (ab_ups σ 65 4 ((o + 1 : Nat) : Int)) 65 4 = ((o + 1 : Nat) : Int) := ab_ups_eq
    generalize ab_ups σ 65 4 ((o + 1 : Nat) : Int) = σ1 at E1 M1 Q1 f1 ⊢
    refine ⟨E1.st.1, fun σ2 N2 S2 => fs_seOne4_74 hG ?_⟩
    have E2 := E1.st.2 σ2 N2 S2
    have M2 : ab_okM sN_M σ σ2 := ev_tr M1 (ev_up N2 (by decide))
    have p2 : pk σ σ2 [] := pk_l (pk_k (M := [(65, 4)]) Q1 (by decide)) (pk_k N2 (by decide))
    have f2 : σ2 65 4 = ((o + 1 : Nat) : Int) := (mk_row N2 (k := 65) (by decide) 4).trans f1
    have N2' : NC σ2 A := ev_NC M2 (by decide +kernel) hN
    rw [csk, c6]
    -- what comes back is told on
    have p156 : ∀ (r : sn_T) (L : sl_T), sn_one A e 4 o p = r → sl_one A e 4 o p = L → sl_post σ2 r L e (fun rv σ3 => G 156 [some (2, 65, 0), some (2, 1, 0), some (2, 3, 0), some (0, 0, 9 - ((4 : Nat) : Int)), some (0, 0, sk_v e p), some (0, 0, a5), none] (rv.toList ++ []) σ3) := by
      intro r L er el
      rw [er, el] at h
      exact ⟨fun q σ' M a b => fs_seOne4_156 hG ⟨fw_01, h.1 q σ' (ev_tr M2 M) a b⟩, fun q σ' M a b c => fs_seOne4_156 hG ⟨fw_11, h.2 q σ' (ev_tr M2 M) a b (pk_l p2 c)⟩⟩
    refine ⟨fun z5 => ?_, fun z5 => ?_⟩
    · have n4 : (tk e p).1 ≠ 40 := by
        rcases h5 with ⟨q, -⟩ | ⟨-, q⟩
        · rw [q] at z5
          exact absurd (fw_c1.symm.trans z5) (by decide)
        · exact q
      have y2 : 9 ≤ tw e p ∧ tw e p ≤ 16 := y.resolve_left n4
      rw [if_neg n4] at en ln
      refine ⟨fun z6 => ⟨fun z7 => ?_, fun z7 => ?_⟩, fun z6 => ?_⟩
      · rw [if_neg (by omega), if_neg (by omega), if_neg (by omega), if_neg (by omega)] at en ln
        exact ⟨e, tn e p, o + 1, _, rfl, ⟨by omega, by omega⟩, E2, f2, p156 _ _ en ln⟩
      · rw [if_neg (by omega)] at en ln
        have nmd : ∀ (r : sn_T) (L : sl_T), sn_one A e 4 o p = r → sl_one A e 4 o p = L → sl_post σ2 r L e (fun rv σ3 => G 146 [some (2, 65, 0), some (2, 1, 0), some (2, 3, 0), some (0, 0, 9 - ((4 : Nat) : Int)), some (0, 0, sk_v e p), some (0, 0, a5), none] (rv.toList ++ []) σ3) := fun r L er el => ⟨fun q σ' M a b => fs_seOne4_146 hG ((p156 r L er el).1 q σ' M a b), fun q σ' M a b c => fs_seOne4_146 hG ((p156 r L er el).2 q σ' M a b c)⟩
        refine ⟨A, e, tn e p, o + 1, _, rfl, N2', E2, f2, ?_⟩
        by_cases w1 : tw e p = 10
        · rw [if_pos w1] at en ln
          exact Or.inl ⟨by omega, nmd _ _ en ln⟩
        rw [if_neg w1] at en ln
        by_cases w2 : tw e p = 11
        · rw [if_pos w2] at en ln
          exact Or.inr (Or.inl ⟨by omega, nmd _ _ en ln⟩)
        rw [if_neg w2, if_pos (by omega)] at en ln
        exact Or.inr (Or.inr ⟨by omega, nmd _ _ en ln⟩)
      · rw [if_pos (by omega)] at en ln
        rw [en, ln] at h
        refine ⟨A, e, tn e p, o + 1, rfl, N2', E2, ⟨f2, by omega⟩, fun q σ' M a b => fs_seOne4_120 hG ⟨0, 0, rfl, fun σ4 M4 _ => fs_seOne4_128 hG ⟨fw_01, h.1 q σ4 (ev_tr (ev_tr M2 M) (ev_up M4 (by decide))) ((mk_row M4 (k := 1) (by decide) 9).trans a) ((mk_row M4 (k := 1) (by decide) 10).trans b)⟩⟩, fun q σ' M a b c => fs_seOne4_120 hG ⟨0, 0, rfl, fun σ4 M4 P4 => fs_seOne4_128 hG ⟨fw_11, h.2 q σ4 (ev_tr (ev_tr M2 M) (ev_up M4 (by decide))) (a.M M4 (by decide) (by decide)) ((mk_at M4 (k := 65) (j := 4) (by decide)).trans b) (pk_tr (pk_l p2 c) (P4 fw_c0 fw_c0))⟩⟩⟩
    · have n4 : (tk e p).1 = 40 := by
        rcases h5 with ⟨-, q⟩ | ⟨q, -⟩
        · exact q
        · rw [q] at z5
          exact absurd fw_c0 z5
      rw [if_pos n4] at en ln
      generalize hr : sn_cd (sn_one A e 3) e (o + 1) (tn e p) = r at en
      rw [en, ln] at h
      refine ⟨A, e, tn e p, o + 1, rfl, N2', E2, ⟨f2, by omega⟩, ?_⟩
      rw [hr]
      refine ⟨fun q σ' M a b => ?_, fun q σ' M E3 f3 p3 => ?_⟩
      · rw [show sn_br e r = r from if_pos q] at h
        exact fs_seOne4_88 hG ⟨fun _ => ⟨fw_01, h.1 q σ' (ev_tr M2 M) a b⟩, fun z => absurd fw_c0 z⟩
      · have M3 : ab_okM sN_M σ σ' := ev_tr M2 M
        refine fs_seOne4_88 hG ⟨fun z => absurd (fw_c1.symm.trans z) (by decide), fun _ => E3.sg (by decide) (fun w σ4 a b c => ?_) (fun w σ4 M4 E4 => ?_)⟩
        · have eb : sn_br e r = (1, ev_st e r.2.2.2, r.2.2.1, r.2.2.2) := (if_neg (fun z => z q)).trans (if_pos w)
          rw [eb] at h
          exact fs_seOne4_97 hG ⟨fun _ => ⟨fw_01, h.1 (show (1 : Int) ≠ 0 by decide) σ4 (ev_tr M3 (ev_up a (by decide))) b c⟩, fun z => absurd fw_c0 z⟩
        · have eb : sn_br e r = (0, 0, r.2.2.1, tn e r.2.2.2) := (if_neg (fun z => z q)).trans (if_neg (fun z => z w))
          rw [eb] at h
          exact fs_seOne4_97 hG ⟨fun z => absurd (fw_c1.symm.trans z) (by decide), fun _ => ⟨fw_11, h.2 rfl σ4 (ev_tr M3 (ev_up M4 (by decide))) E4 ((mk_row M4 (k := 65) (by decide) 4).trans f3) (pk_l p2 (pk_r p3 (pk_k M4 (by decide))))⟩⟩
  have no : ¬ sn_st e p → G 20 [some (2, 65, 0), some (2, 1, 0), some (2, 3, 0), some (0, 0, 9 - ((4 : Nat) : Int)), some (0, 0, sk_v e p), none, none] [(0, 0, 0)] σ := fun y => by
    have en : sn_one A e 4 o p = (1, ev_st e p, o, p) := (sn_one_s A e 3 o p).trans (if_pos y)
    rw [en] at h
    have ek : sk_v e p = -1 := by
      have : ¬ (9 ≤ tw e p ∧ tw e p ≤ 16) := fun z => y (Or.inr z)
      omega
    refine fs_seOne4_20 hG ⟨fun z => absurd (by rw [ek]) z, fun _ => ⟨fun z => absurd fw_c0 z, fun _ => ⟨1, rfl, E.rf (x := 1) (v := 0) (K := fun rv σ2 => G 38 [some (2, 65, 0), some (2, 1, 0), some (2, 3, 0), some (0, 0, 9 - ((4 : Nat) : Int)), some (0, 0, sk_v e p), some (0, 0, 0), none] (rv.toList ++ []) σ2) (by decide) (fun σ' a b c => fs_seOne4_38 hG ⟨fw_01, h.1 (show (1 : Int) ≠ 0 by decide) σ' (ev_up a (by decide)) b c⟩)⟩⟩⟩
  refine ⟨fun z => ?_, fun z => ?_⟩
  · by_cases y : sn_st e p
    · have y2 : 9 ≤ tw e p ∧ tw e p ≤ 16 := y.resolve_left z
      exact fs_seOne4_20 hG ⟨fun _ => go y 0 (Or.inr ⟨rfl, z⟩), fun u => absurd u (by rw [csk, m1]; omega)⟩
    · exact no y
  · have y : sn_st e p := Or.inl z
    have ek : sk_v e p = -1 := by
      have := n40 z
      omega
    exact fs_seOne4_20 hG ⟨fun u => absurd (by rw [ek]) u, fun _ => ⟨fun _ => go y 1 (Or.inl ⟨rfl, z⟩), fun u => absurd (fw_c1.symm.trans u) (by decide)⟩⟩)
theorem fm_seCond4 (hinj : nn_inj ad) : fw_H l cy ad wr cr D 174 14 (sp_seCond 4) := fw_mk hinj (⟨"NameNotes$Sentence", "readCond", "(LNameNotes$Tape;LNameNotes$Studio;I)Z"⟩, prog_7_method_5_code, 8, (Option.some Jvm.ClassFile.FieldType.boolean), 3, true, 1) rfl rfl nn_KI5_ok nn_KJ5_ok nn_PF5_ok nn_PS5_ok (by decide +kernel) rfl rfl (List.forall_mem_cons.mpr ⟨fw_row nn_PM5_ok (x := 52) (k := 0) (mn := 175) (np := 3) (ob := true) (ci := 5) (⟨"NameNotes$Sentence", "readOne", "(LNameNotes$Tape;LNameNotes$Studio;I)Z"⟩, prog_7_method_6_code, 7, (Option.some Jvm.ClassFile.FieldType.boolean), 3, true, 1) rfl (by decide +kernel) rfl rfl (by decide) (fun _ => ⟨_, _, rfl⟩) (fm_seOne4 hinj), (List.forall_mem_cons.mpr ⟨fw_row nn_PM5_ok (x := 61) (k := 0) (mn := 20) (np := 1) (ob := true) (ci := 8) (⟨"NameNotes$Tape", "isWord", "(LNameNotes$Word;)Z"⟩, prog_10_method_10_code, 2, (Option.some Jvm.ClassFile.FieldType.boolean), 1, true, 1) rfl (by decide +kernel) rfl rfl (by decide) (fun _ => ⟨_, _, rfl⟩) (fm_isWord hinj), (List.forall_mem_cons.mpr ⟨fw_row nn_PM5_ok (x := 68) (k := 0) (mn := 177) (np := 2) (ob := true) (ci := 5) (⟨"NameNotes$Sentence", "addStep", "(II)V"⟩, prog_7_method_10_code, 3, (Option.none : Option Jvm.ClassFile.FieldType), 2, true, 4) rfl (by decide +kernel) rfl rfl (by decide) (fun _ => ⟨_, _, rfl⟩) (fm_seAdd hinj), (List.forall_mem_cons.mpr ⟨fw_row nn_PM5_ok (x := 72) (k := 0) (mn := 10) (np := 0) (ob := true) (ci := 8) (⟨"NameNotes$Tape", "step", "()V"⟩, prog_10_method_5_code, 2, (Option.none : Option Jvm.ClassFile.FieldType), 0, true, 4) rfl (by decide +kernel) rfl rfl (by decide) (fun _ => ⟨_, _, rfl⟩) (fm_step hinj), (fun _ h => absurd h List.not_mem_nil)⟩)⟩)⟩)⟩) (fun as σ K h => by
  obtain ⟨A, e, p, o, rfl, hN, E, ⟨h4, ho⟩, h⟩ := h
  have c20 : fw_c 20 = 20 := fw_s (by decide) (by decide)
  have c2 : fw_c 2 = 2 := fw_s (by decide) (by decide)
  have og := sn_one_gr A e 4
  refine ⟨rfl, fun G hG => ?_⟩
  have ex0 : ∀ (τ : ab_SG) (a5 a6 : Int) (o7 : Option ab_AV), (∀ τ' : ab_SG, ab_okM se_M τ τ' → K (some (0, 0, 0)) τ') → G 15 [some (2, 65, 0), some (2, 1, 0), some (2, 3, 0), some (0, 0, 9 - ((4 : Nat) : Int)), some (0, 0, 0), some (0, 0, a5), some (0, 0, a6), o7] [] τ := by
    intro τ a5 a6 o7 k
    have g : G 117 [some (2, 65, 0), some (2, 1, 0), some (2, 3, 0), some (0, 0, 9 - ((4 : Nat) : Int)), some (0, 0, 0), some (0, 0, a5), some (0, 0, a6), o7] [] τ := fs_seCond4_117 hG ⟨fun _ => fs_seCond4_128 hG ⟨fw_01, k τ (fw_okM_refl _ _)⟩, fun _ => ⟨_, _, rfl, fun τ' M _ => fs_seCond4_128 hG ⟨fw_01, k τ' M⟩⟩⟩
    exact fs_seCond4_15 hG ⟨fun _ => g, fun _ => ⟨fun _ => g, fun z => absurd fw_c0 z⟩⟩
  have ex1 : ∀ (τ : ab_SG) (w : Bool) (a6 : Int) (o7 : Option ab_AV), (∀ τ' : ab_SG, ab_okM se_M τ τ' → pk τ τ' (fl w) → K (some (0, 0, 1)) τ') → G 117 [some (2, 65, 0), some (2, 1, 0), some (2, 3, 0), some (0, 0, 9 - ((4 : Nat) : Int)), some (0, 0, 1), some (0, 0, bI w), some (0, 0, a6), o7] [] τ := fun τ w a6 o7 k =>
    fs_seCond4_117 hG ⟨fun z => fs_seCond4_128 hG ⟨fw_11, k τ (fw_okM_refl _ _) (by rw [bI_0 z]; exact pk_0 τ)⟩, fun z => ⟨_, _, rfl, fun τ' M P => fs_seCond4_128 hG ⟨fw_11, k τ' M (by rw [bI_1 z]; exact P c2 fw_c0)⟩⟩⟩
  have add : ∀ {τ τ' : ab_SG}, ab_okM se_M τ τ' → ab_okM sN_M τ τ' := fun M => ev_up M (by decide)
  have loop : ∀ (g i o1 p1 : Nat) (τ : ab_SG) (w : Bool) (L1 : sl_T) (o7 : Option ab_AV), i + g = 20 → i + 1 ≤ o1 → o1 ≤ 20 → ab_okM sN_M σ τ → eD τ e p1 → τ 65 4 = (o1 : Int) → pk σ τ L1 → sn_cd (sn_one A e 4) e o p = sn_lp (sn_one A e 4) e g o1 p1 → sl_cd (sn_one A e 4) (sl_one A e 4) e o p = L1 ++ sl_lp (sn_one A e 4) (sl_one A e 4) e g w o1 p1 → G 15 [some (2, 65, 0), some (2, 1, 0), some (2, 3, 0), some (0, 0, 9 - ((4 : Nat) : Int)), some (0, 0, 1), some (0, 0, bI w), some (0, 0, (i : Int)), o7] [] τ := by
    intro g
    induction g with
    | zero =>
      intro i o1 p1 τ w L1 o7 hi h1 h2 _ _ _ _ _ _
      omega
    | succ g ih =>
      intro i o1 p1 τ w L1 o7 hi h1 h2 M E1 f1 hp hr hL
      have ci : fw_c (i : Int) = (i : Int) := fw_s (by omega) (by omega)
      rw [sn_lps] at hr
      rw [sl_lps] at hL
      have iw : ∀ (τ1 : ab_SG) (x : Int) (Q : fw_KR), eD τ1 e p1 → 0 ≤ x → x ≤ 16 → (tw e p1 = x → Q (some (0, 0, 1)) τ1) → (tw e p1 ≠ x → Q (some (0, 0, 0)) τ1) → sp_isWord [(2, 1, 0), (4, 0, x)] τ1 Q := by
        intro τ1 x Q E2 h1 h2 a b
        have kw := E2.kw
        refine ⟨x, rfl, ⟨kw.2.1, kw.2.2, by omega, h2⟩, ?_⟩
        by_cases c : tw e p1 = x
        · rw [fw_bo_t ((E2.isw h1).mpr c)]
          exact a c
        · rw [fw_bo_f (fun z => c ((E2.isw h1).mp z))]
          exact b c
      have u0 : ∀ {X : Prop}, fw_c 0 ≠ 0 → X := fun z => absurd fw_c0 z
      have u1 : ∀ {X : Prop}, fw_c 1 = 0 → X := fun z => absurd (fw_c1.symm.trans z) (by decide)
      have n1 : fw_c 1 ≠ 0 := fun z => u1 z
      have stop : ¬ (tw e p1 = 8 ∨ tw e p1 = 7) → G 117 [some (2, 65, 0), some (2, 1, 0), some (2, 3, 0), some (0, 0, 9 - ((4 : Nat) : Int)), some (0, 0, 1), some (0, 0, bI w), some (0, 0, (i : Int)), o7] [] τ := fun c => by
        rw [if_neg c] at hr
        rw [if_neg (fun z => c (Or.inl z)), if_neg (fun z => c (Or.inr z))] at hL
        rw [hr, hL] at h
        exact ex1 τ w _ o7 (fun τ' M' P' => h.2 rfl τ' (ev_tr M (add M')) (E1.M M' (by decide) (by decide)) ((mk_at M' (k := 65) (j := 4) (by decide)).trans f1) (pk_tr hp P'))
      have g84 : (tw e p1 = 8 ∨ tw e p1 = 7) → ∀ (τ1 : ab_SG) (a7 b0 : Int) (w2 : Bool) (L2 T : sl_T), fw_op 9 (bI w) b0 = bI w2 → ab_okM sN_M σ τ1 → eD τ1 e p1 → τ1 65 4 = (o1 : Int) → pk σ τ1 L2 → ((fw_c a7 = 0 ∧ T = []) ∨ (fw_c a7 ≠ 0 ∧ T = [(1, 0)])) → sl_cd (sn_one A e 4) (sl_one A e 4) e o p = L2 ++ (sl_one A e 4 o1 (tn e p1) ++ (T ++ sl_lp (sn_one A e 4) (sl_one A e 4) e g w2 (sn_one A e 4 o1 (tn e p1)).2.2.1 (sn_one A e 4 o1 (tn e p1)).2.2.2)) → G 84 [some (2, 65, 0), some (2, 1, 0), some (2, 3, 0), some (0, 0, 9 - ((4 : Nat) : Int)), some (0, 0, 1), some (0, 0, bI w), some (0, 0, (i : Int)), some (0, 0, a7)] [(0, 0, b0), (0, 0, bI w)] τ1 := by
        intro c τ1 a7 b0 w2 L2 T hb M1 E2 f2 hp2 hT hL2
        refine fs_seCond4_84 hG ⟨rfl, E2.st.1, fun τ2 N2 S2 => fs_seCond4_91 hG ?_⟩
        rw [hb]
        have E3 := E2.st.2 τ2 N2 S2
        have M2 : ab_okM sN_M σ τ2 := ev_tr M1 (ev_up N2 (by decide))
        have p2 : pk σ τ2 L2 := pk_r hp2 (pk_k N2 (by decide))
        rw [if_pos c] at hr
        refine ⟨A, e, tn e p1, o1, rfl, ev_NC M2 (by decide +kernel) hN, E3, ⟨(mk_row N2 (k := 65) (by decide) 4).trans f2, h2⟩, fun q σ' M3 a b => ?_, fun q σ' M3 E4 f4 p4 => ?_⟩
        · rw [if_pos q] at hr
          rw [hr] at h
          have k : ∀ τ' : ab_SG, ab_okM se_M σ' τ' → K (some (0, 0, 0)) τ' := fun τ' M' => h.1 q τ' (ev_tr (ev_tr M2 M3) (add M')) ((mk_row M' (k := 1) (by decide) 9).trans a) ((mk_row M' (k := 1) (by decide) 10).trans b)
          exact fs_seCond4_98 hG ⟨fun _ => fs_seCond4_111 hG (ex0 σ' _ _ _ k), fun _ => ⟨_, _, rfl, fun τ' M' _ => fs_seCond4_111 hG (ex0 τ' _ _ _ (fun τ'' M'' => k τ'' (ev_tr M' M'')))⟩⟩
        · rw [if_neg (fun z => z q)] at hr
          have gr := og o1 (tn e p1) h2 q
          have p5 : pk σ σ' (L2 ++ sl_one A e 4 o1 (tn e p1)) := pk_tr p2 p4
          have nx : ∀ τ' : ab_SG, ab_okM sN_M σ τ' → eD τ' e (sn_one A e 4 o1 (tn e p1)).2.2.2 → τ' 65 4 = ((sn_one A e 4 o1 (tn e p1)).2.2.1 : Int) → pk σ τ' (L2 ++ sl_one A e 4 o1 (tn e p1) ++ T) → G 111 [some (2, 65, 0), some (2, 1, 0), some (2, 3, 0), some (0, 0, 9 - ((4 : Nat) : Int)), some (0, 0, 1), some (0, 0, bI w2), some (0, 0, (i : Int)), some (0, 0, a7)] [] τ' := fun τ' M' E' f' p' => fs_seCond4_111 hG (by
            have g := ih (i + 1) _ _ τ' w2 _ (some (0, 0, a7)) (by omega) (by omega) gr.2 M' E' f' p' hr (by rw [hL2, List.append_assoc, List.append_assoc])
            rw [show ((i + 1 : Nat) : Int) = (i : Int) + 1 from rfl] at g
            exact g)
          rcases hT with ⟨z, eT⟩ | ⟨z, eT⟩
          · exact fs_seCond4_98 hG ⟨fun _ => nx σ' (ev_tr M2 M3) E4 f4 (by rw [eT, List.append_nil]; exact p5), fun y => absurd z y⟩
          · exact fs_seCond4_98 hG ⟨fun y => absurd y z, fun _ => ⟨_, _, rfl, fun τ' M' P' => nx τ' (ev_tr (ev_tr M2 M3) (add M')) (E4.M M' (by decide) (by decide)) ((mk_at M' (k := 65) (j := 4) (by decide)).trans f4) (by rw [eT]; exact pk_tr p5 (P' fw_c1 fw_c0))⟩⟩
      -- AND
      have ga : tw e p1 = 8 → G 47 [some (2, 65, 0), some (2, 1, 0), some (2, 3, 0), some (0, 0, 9 - ((4 : Nat) : Int)), some (0, 0, 1), some (0, 0, bI w), some (0, 0, (i : Int)), o7] [] τ := fun c8 => by
        rw [if_pos c8] at hL
        exact fs_seCond4_47 hG (iw τ 8 _ E1 (by decide) (by decide) (fun _ => fs_seCond4_54 hG ⟨fun _ => fs_seCond4_72 hG ⟨fun _ => g84 (Or.inl c8) τ 1 0 w L1 [(1, 0)] (bI_a w) M E1 f1 hp (Or.inr ⟨n1, rfl⟩) hL, u1⟩, u1⟩) (fun z => absurd c8 z))
      -- OR
      have gb : tw e p1 ≠ 8 → tw e p1 = 7 → ∀ τ1 : ab_SG, ab_okM sN_M σ τ1 → eD τ1 e p1 → τ1 65 4 = (o1 : Int) → pk σ τ1 (L1 ++ fl w) → G 72 [some (2, 65, 0), some (2, 1, 0), some (2, 3, 0), some (0, 0, 9 - ((4 : Nat) : Int)), some (0, 0, 1), some (0, 0, bI w), some (0, 0, (i : Int)), some (0, 0, 0)] [] τ1 := fun c8 c7 τ1 M1 E2 f2 hp2 => by
        rw [if_neg c8, if_pos c7] at hL
        exact fs_seCond4_72 hG ⟨u0, fun _ => g84 (Or.inr c7) τ1 0 1 true (L1 ++ fl w) [] (bI_o w) M1 E2 f2 hp2 (Or.inl ⟨fw_c0, rfl⟩) (by rw [List.append_assoc]; exact hL)⟩
      have go : tw e p1 ≠ 8 → tw e p1 = 7 → G 47 [some (2, 65, 0), some (2, 1, 0), some (2, 3, 0), some (0, 0, 9 - ((4 : Nat) : Int)), some (0, 0, 1), some (0, 0, bI w), some (0, 0, (i : Int)), o7] [] τ := fun c8 c7 =>
        fs_seCond4_47 hG (iw τ 8 _ E1 (by decide) (by decide) (fun z => absurd z c8) (fun _ => fs_seCond4_54 hG ⟨u0, fun _ => ⟨fun z => gb c8 c7 τ M E1 f1 (by rw [bI_0 z]; exact pk_tr hp (show pk τ τ (fl false) from pk_0 τ)), fun z => ⟨_, _, rfl, fun τ' M' P' => gb c8 c7 τ' (ev_tr M (add M')) (E1.M M' (by decide) (by decide)) ((mk_at M' (k := 65) (j := 4) (by decide)).trans f1) (by rw [bI_1 z]; exact pk_tr hp (P' c2 fw_c0))⟩⟩⟩))
      refine fs_seCond4_15 hG ⟨fun z => absurd z (by rw [c20, ci]; omega), fun _ => ⟨u1, fun _ => iw τ 8 _ E1 (by decide) (by decide) (fun c => fs_seCond4_34 hG ⟨fun _ => ga c, u1⟩) (fun c8 => fs_seCond4_34 hG ⟨u0, fun _ => iw τ 7 _ E1 (by decide) (by decide) (fun c => fs_seCond4_44 hG ⟨u1, fun _ => go c8 c⟩) (fun c7 => fs_seCond4_44 hG ⟨fun _ => stop (fun z => z.elim c8 c7), u0⟩)⟩)⟩⟩
  exact fs_seCond4_0 hG ⟨A, e, p, o, rfl, hN, E, ⟨h4, ho⟩, fun q σ' M a b => fs_seCond4_7 hG (ex0 σ' 0 0 none (fun τ' M' => by
    have en : sn_cd (sn_one A e 4) e o p = sn_one A e 4 o p := if_pos q
    rw [en] at h
    exact h.1 q τ' (ev_tr M (add M')) ((mk_row M' (k := 1) (by decide) 9).trans a) ((mk_row M' (k := 1) (by decide) 10).trans b))), fun q σ' M E' f' p' => fs_seCond4_7 hG (by
    have gr := og o p ho q
    exact loop 20 0 _ _ σ' false _ none rfl (by omega) gr.2 M E' f' p' (if_neg (fun z => z q)) rfl)⟩)
end
abbrev fk_seOne5 : List fw_CR := [(41, 3, true, 5, 14, sp_seCond 4), (48, 1, true, 8, 0, sp_refuse), (52, 3, true, 5, 13, sp_seOne 4), (68, 2, true, 5, 1, sp_seAdd), (72, 0, true, 8, 2, sp_step), (75, 1, false, 0, 1, sp_seKind), (79, 1, true, 8, 3, sp_takeSign), (82, 3, true, 5, 3, sp_seNamed), (85, 2, true, 5, 3, sp_seMeas)]
abbrev st_seOne5 : fw_K → fw_KR → fw_K := fw_st vwCl nn_sh nn_kd fw_kv fw_wc (nn_KI5.map (fun x => x.1)) (nn_KJ5.map (fun x => x.1)) (nn_PF5.map (fun x => x.1)) (nn_PS5.map (fun x => x.1)) fk_seOne5 15 nn_dt175 7 1
theorem fs_seOne5_0 {G : fw_K} {R : fw_KR} (hG : fw_cls st_seOne5 R G) {d : Int} {σ : ab_SG} (h : sp_seKind [(2, 1, 0)] σ (fun rv σ2 => G 4 [some (2, 65, 0), some (2, 1, 0), some (2, 3, 0), some (0, 0, d), none, none, none] (rv.toList ++ []) σ2)) : G 0 [some (2, 65, 0), some (2, 1, 0), some (2, 3, 0), some (0, 0, d), none, none, none] [] σ := fw_on hG [4, 20, 38, 39, 54, 59, 74, 88, 97, 120, 128, 146, 156] 200 h
theorem fs_seOne5_4 {G : fw_K} {R : fw_KR} (hG : fw_cls st_seOne5 R G) {a3 b0 : Int} {o4 o6 : Option ab_AV} {σ : ab_SG} (h : (fw_c (σ 1 5) ≠ fw_c 40 → G 20 [some (2, 65, 0), some (2, 1, 0), some (2, 3, 0), some (0, 0, a3), some (0, 0, b0), none, o6] [(0, 0, 0)] σ) ∧ (fw_c (σ 1 5) = fw_c 40 → G 20 [some (2, 65, 0), some (2, 1, 0), some (2, 3, 0), some (0, 0, a3), some (0, 0, b0), none, o6] [(0, 0, 1)] σ)) : G 4 [some (2, 65, 0), some (2, 1, 0), some (2, 3, 0), some (0, 0, a3), o4, none, o6] [(0, 0, b0)] σ := fw_on hG [4, 20, 38, 39, 54, 59, 74, 88, 97, 120, 128, 146, 156] 200 h
theorem fs_seOne5_20 {G : fw_K} {R : fw_KR} (hG : fw_cls st_seOne5 R G) {a3 a4 b0 : Int} {o6 : Option ab_AV} {σ : ab_SG} (h : (fw_c a4 ≠ fw_c (-1) → G 39 [some (2, 65, 0), some (2, 1, 0), some (2, 3, 0), some (0, 0, a3), some (0, 0, a4), some (0, 0, b0), o6] [] σ) ∧ (fw_c a4 = fw_c (-1) → (fw_c b0 ≠ 0 → G 39 [some (2, 65, 0), some (2, 1, 0), some (2, 3, 0), some (0, 0, a3), some (0, 0, a4), some (0, 0, b0), o6] [] σ) ∧ (fw_c b0 = 0 → sp_refuse [(2, 1, 0), (0, 0, 1)] σ (fun rv σ2 => G 38 [some (2, 65, 0), some (2, 1, 0), some (2, 3, 0), some (0, 0, a3), some (0, 0, a4), some (0, 0, b0), o6] (rv.toList ++ []) σ2)))) : G 20 [some (2, 65, 0), some (2, 1, 0), some (2, 3, 0), some (0, 0, a3), some (0, 0, a4), none, o6] [(0, 0, b0)] σ := fw_on hG [4, 20, 38, 39, 54, 59, 74, 88, 97, 120, 128, 146, 156] 200 h
theorem fs_seOne5_39 {G : fw_K} {R : fw_KR} (hG : fw_cls st_seOne5 R G) {a3 a4 a5 : Int} {o6 : Option ab_AV} {σ : ab_SG} (h : (fw_c 20 ≤ fw_c (σ 65 4) → G 54 [some (2, 65, 0), some (2, 1, 0), some (2, 3, 0), some (0, 0, a3), some (0, 0, a4), some (0, 0, a5), o6] [] σ) ∧ (fw_c (σ 65 4) < fw_c 20 → (fw_c a3 ≤ fw_c 8 → sp_step [(2, 1, 0)] (ab_ups σ 65 4 (fw_c ((σ 65 4) + 1))) (fun rv σ2 => G 74 [some (2, 65, 0), some (2, 1, 0), some (2, 3, 0), some (0, 0, a3), some (0, 0, a4), some (0, 0, a5), o6] (rv.toList ++ []) σ2)) ∧ (fw_c 8 < fw_c a3 → G 54 [some (2, 65, 0), some (2, 1, 0), some (2, 3, 0), some (0, 0, a3), some (0, 0, a4), some (0, 0, a5), o6] [] σ))) : G 39 [some (2, 65, 0), some (2, 1, 0), some (2, 3, 0), some (0, 0, a3), some (0, 0, a4), some (0, 0, a5), o6] [] σ := fw_on hG [4, 20, 38, 39, 54, 59, 74, 88, 97, 120, 128, 146, 156] 200 h
theorem fs_seOne5_38 {G : fw_K} {R : fw_KR} (hG : fw_cls st_seOne5 R G) {a5 b0 : Int} {o1 o2 o3 o4 o6 : Option ab_AV} {σ : ab_SG} (h : (0 ≤ fw_c b0 ∧ fw_c b0 ≤ 1) ∧ R (some (0, 0, b0)) σ) : G 38 [some (2, 65, 0), o1, o2, o3, o4, some (0, 0, a5), o6] [(0, 0, b0)] σ := fw_on hG [4, 20, 38, 39, 54, 59, 74, 88, 97, 120, 128, 146, 156] 200 h
theorem fs_seOne5_54 {G : fw_K} {R : fw_KR} (hG : fw_cls st_seOne5 R G) {a5 : Int} {o2 o3 o4 o6 : Option ab_AV} {σ : ab_SG} (h : sp_refuse [(2, 1, 0), (0, 0, 4)] σ (fun rv σ2 => G 59 [some (2, 65, 0), some (2, 1, 0), o2, o3, o4, some (0, 0, a5), o6] (rv.toList ++ []) σ2)) : G 54 [some (2, 65, 0), some (2, 1, 0), o2, o3, o4, some (0, 0, a5), o6] [] σ := fw_on hG [4, 20, 38, 39, 54, 59, 74, 88, 97, 120, 128, 146, 156] 200 h
theorem fs_seOne5_74 {G : fw_K} {R : fw_KR} (hG : fw_cls st_seOne5 R G) {a3 a4 a5 : Int} {o6 : Option ab_AV} {σ : ab_SG} (h : (fw_c a5 = 0 → (fw_c a4 ≠ 0 → (fw_c 6 ≤ fw_c a4 → sp_seMeas [(2, 65, 0), (2, 1, 0), (0, 0, a4)] σ (fun rv σ2 => G 156 [some (2, 65, 0), some (2, 1, 0), some (2, 3, 0), some (0, 0, a3), some (0, 0, a4), some (0, 0, a5), o6] (rv.toList ++ []) σ2)) ∧ (fw_c a4 < fw_c 6 → sp_seNamed [(2, 65, 0), (2, 1, 0), (2, 3, 0), (0, 0, a4)] σ (fun rv σ2 => G 146 [some (2, 65, 0), some (2, 1, 0), some (2, 3, 0), some (0, 0, a3), some (0, 0, a4), some (0, 0, a5), o6] (rv.toList ++ []) σ2))) ∧ (fw_c a4 = 0 → sp_seOne 4 [(2, 65, 0), (2, 1, 0), (2, 3, 0), (0, 0, a3 + 1)] σ (fun rv σ2 => G 120 [some (2, 65, 0), some (2, 1, 0), some (2, 3, 0), some (0, 0, a3), some (0, 0, a4), some (0, 0, a5), o6] (rv.toList ++ []) σ2))) ∧ (fw_c a5 ≠ 0 → sp_seCond 4 [(2, 65, 0), (2, 1, 0), (2, 3, 0), (0, 0, a3 + 1)] σ (fun rv σ2 => G 88 [some (2, 65, 0), some (2, 1, 0), some (2, 3, 0), some (0, 0, a3), some (0, 0, a4), some (0, 0, a5), o6] (rv.toList ++ []) σ2))) : G 74 [some (2, 65, 0), some (2, 1, 0), some (2, 3, 0), some (0, 0, a3), some (0, 0, a4), some (0, 0, a5), o6] [] σ := fw_on hG [4, 20, 38, 39, 54, 59, 74, 88, 97, 120, 128, 146, 156] 200 h
theorem fs_seOne5_59 {G : fw_K} {R : fw_KR} (hG : fw_cls st_seOne5 R G) {a5 b0 : Int} {o1 o2 o3 o4 o6 : Option ab_AV} {σ : ab_SG} (h : (0 ≤ fw_c b0 ∧ fw_c b0 ≤ 1) ∧ R (some (0, 0, b0)) σ) : G 59 [some (2, 65, 0), o1, o2, o3, o4, some (0, 0, a5), o6] [(0, 0, b0)] σ := fw_on hG [4, 20, 38, 39, 54, 59, 74, 88, 97, 120, 128, 146, 156] 200 h
theorem fs_seOne5_156 {G : fw_K} {R : fw_KR} (hG : fw_cls st_seOne5 R G) {a5 b0 : Int} {o1 o2 o3 o4 o6 : Option ab_AV} {σ : ab_SG} (h : (0 ≤ fw_c b0 ∧ fw_c b0 ≤ 1) ∧ R (some (0, 0, b0)) σ) : G 156 [some (2, 65, 0), o1, o2, o3, o4, some (0, 0, a5), o6] [(0, 0, b0)] σ := fw_on hG [4, 20, 38, 39, 54, 59, 74, 88, 97, 120, 128, 146, 156] 200 h
theorem fs_seOne5_146 {G : fw_K} {R : fw_KR} (hG : fw_cls st_seOne5 R G) {a5 b0 : Int} {o1 o2 o3 o4 o6 : Option ab_AV} {σ : ab_SG} (h : G 156 [some (2, 65, 0), o1, o2, o3, o4, some (0, 0, a5), o6] [(0, 0, b0)] σ) : G 146 [some (2, 65, 0), o1, o2, o3, o4, some (0, 0, a5), o6] [(0, 0, b0)] σ := fw_on hG [4, 20, 38, 39, 54, 59, 74, 88, 97, 120, 128, 146, 156] 200 h
theorem fs_seOne5_120 {G : fw_K} {R : fw_KR} (hG : fw_cls st_seOne5 R G) {a5 b0 : Int} {o1 o2 o3 o4 o6 : Option ab_AV} {σ : ab_SG} (h : sp_seAdd [(2, 65, 0), (0, 0, 0), (0, 0, 0)] σ (fun rv σ2 => G 128 [some (2, 65, 0), o1, o2, o3, o4, some (0, 0, a5), some (0, 0, b0)] (rv.toList ++ []) σ2)) : G 120 [some (2, 65, 0), o1, o2, o3, o4, some (0, 0, a5), o6] [(0, 0, b0)] σ := fw_on hG [4, 20, 38, 39, 54, 59, 74, 88, 97, 120, 128, 146, 156] 200 h
theorem fs_seOne5_88 {G : fw_K} {R : fw_KR} (hG : fw_cls st_seOne5 R G) {a5 b0 : Int} {o2 o3 o4 o6 : Option ab_AV} {σ : ab_SG} (h : (fw_c b0 = 0 → (0 ≤ fw_c 0 ∧ fw_c 0 ≤ 1) ∧ R (some (0, 0, 0)) σ) ∧ (fw_c b0 ≠ 0 → sp_takeSign [(2, 1, 0), (0, 0, 41)] σ (fun rv σ2 => G 97 [some (2, 65, 0), some (2, 1, 0), o2, o3, o4, some (0, 0, a5), o6] (rv.toList ++ []) σ2))) : G 88 [some (2, 65, 0), some (2, 1, 0), o2, o3, o4, some (0, 0, a5), o6] [(0, 0, b0)] σ := fw_on hG [4, 20, 38, 39, 54, 59, 74, 88, 97, 120, 128, 146, 156] 200 h
theorem fs_seOne5_128 {G : fw_K} {R : fw_KR} (hG : fw_cls st_seOne5 R G) {a5 a6 : Int} {o1 o2 o3 o4 : Option ab_AV} {σ : ab_SG} (h : (0 ≤ fw_c a6 ∧ fw_c a6 ≤ 1) ∧ R (some (0, 0, a6)) σ) : G 128 [some (2, 65, 0), o1, o2, o3, o4, some (0, 0, a5), some (0, 0, a6)] [] σ := fw_on hG [4, 20, 38, 39, 54, 59, 74, 88, 97, 120, 128, 146, 156] 200 h
theorem fs_seOne5_97 {G : fw_K} {R : fw_KR} (hG : fw_cls st_seOne5 R G) {a5 b0 : Int} {o1 o2 o3 o4 o6 : Option ab_AV} {σ : ab_SG} (h : (fw_c b0 = 0 → (0 ≤ fw_c 0 ∧ fw_c 0 ≤ 1) ∧ R (some (0, 0, 0)) σ) ∧ (fw_c b0 ≠ 0 → (0 ≤ fw_c 1 ∧ fw_c 1 ≤ 1) ∧ R (some (0, 0, 1)) σ)) : G 97 [some (2, 65, 0), o1, o2, o3, o4, some (0, 0, a5), o6] [(0, 0, b0)] σ := fw_on hG [4, 20, 38, 39, 54, 59, 74, 88, 97, 120, 128, 146, 156] 200 h
abbrev fk_seCond5 : List fw_CR := [(52, 3, true, 5, 15, sp_seOne 5), (61, 1, true, 8, 0, sp_isWord), (68, 2, true, 5, 1, sp_seAdd), (72, 0, true, 8, 2, sp_step)]
abbrev st_seCond5 : fw_K → fw_KR → fw_K := fw_st vwCl nn_sh nn_kd fw_kv fw_wc (nn_KI5.map (fun x => x.1)) (nn_KJ5.map (fun x => x.1)) (nn_PF5.map (fun x => x.1)) (nn_PS5.map (fun x => x.1)) fk_seCond5 16 nn_dt174 8 1
theorem fs_seCond5_0 {G : fw_K} {R : fw_KR} (hG : fw_cls st_seCond5 R G) {d : Int} {σ : ab_SG} (h : sp_seOne 5 [(2, 65, 0), (2, 1, 0), (2, 3, 0), (0, 0, d)] σ (fun rv σ2 => G 7 [some (2, 65, 0), some (2, 1, 0), some (2, 3, 0), some (0, 0, d), none, none, none, none] (rv.toList ++ []) σ2)) : G 0 [some (2, 65, 0), some (2, 1, 0), some (2, 3, 0), some (0, 0, d), none, none, none, none] [] σ := fw_on hG [7, 15, 34, 44, 47, 54, 72, 84, 91, 98, 111, 117, 128] 200 h
theorem fs_seCond5_7 {G : fw_K} {R : fw_KR} (hG : fw_cls st_seCond5 R G) {a3 b0 : Int} {o5 o6 o7 : Option ab_AV} {σ : ab_SG} (h : G 15 [some (2, 65, 0), some (2, 1, 0), some (2, 3, 0), some (0, 0, a3), some (0, 0, b0), some (0, 0, 0), some (0, 0, 0), o7] [] σ) : G 7 [some (2, 65, 0), some (2, 1, 0), some (2, 3, 0), some (0, 0, a3), none, o5, o6, o7] [(0, 0, b0)] σ := fw_on hG [7, 15, 34, 44, 47, 54, 72, 84, 91, 98, 111, 117, 128] 200 h
theorem fs_seCond5_15 {G : fw_K} {R : fw_KR} (hG : fw_cls st_seCond5 R G) {a3 a4 a5 a6 : Int} {o7 : Option ab_AV} {σ : ab_SG} (h : (fw_c 20 ≤ fw_c a6 → G 117 [some (2, 65, 0), some (2, 1, 0), some (2, 3, 0), some (0, 0, a3), some (0, 0, a4), some (0, 0, a5), some (0, 0, a6), o7] [] σ) ∧ (fw_c a6 < fw_c 20 → (fw_c a4 = 0 → G 117 [some (2, 65, 0), some (2, 1, 0), some (2, 3, 0), some (0, 0, a3), some (0, 0, a4), some (0, 0, a5), some (0, 0, a6), o7] [] σ) ∧ (fw_c a4 ≠ 0 → sp_isWord [(2, 1, 0), (4, 0, 8)] σ (fun rv σ2 => G 34 [some (2, 65, 0), some (2, 1, 0), some (2, 3, 0), some (0, 0, a3), some (0, 0, a4), some (0, 0, a5), some (0, 0, a6), o7] (rv.toList ++ []) σ2)))) : G 15 [some (2, 65, 0), some (2, 1, 0), some (2, 3, 0), some (0, 0, a3), some (0, 0, a4), some (0, 0, a5), some (0, 0, a6), o7] [] σ := fw_on hG [7, 15, 34, 44, 47, 54, 72, 84, 91, 98, 111, 117, 128] 200 h
theorem fs_seCond5_117 {G : fw_K} {R : fw_KR} (hG : fw_cls st_seCond5 R G) {a4 a5 : Int} {o1 o2 o3 o6 o7 : Option ab_AV} {σ : ab_SG} (h : (fw_c a5 = 0 → G 128 [some (2, 65, 0), o1, o2, o3, some (0, 0, a4), some (0, 0, a5), o6, o7] [] σ) ∧ (fw_c a5 ≠ 0 → sp_seAdd [(2, 65, 0), (0, 0, 2), (0, 0, 0)] σ (fun rv σ2 => G 128 [some (2, 65, 0), o1, o2, o3, some (0, 0, a4), some (0, 0, a5), o6, o7] (rv.toList ++ []) σ2))) : G 117 [some (2, 65, 0), o1, o2, o3, some (0, 0, a4), some (0, 0, a5), o6, o7] [] σ := fw_on hG [7, 15, 34, 44, 47, 54, 72, 84, 91, 98, 111, 117, 128] 200 h
theorem fs_seCond5_34 {G : fw_K} {R : fw_KR} (hG : fw_cls st_seCond5 R G) {a3 a4 a5 a6 b0 : Int} {o7 : Option ab_AV} {σ : ab_SG} (h : (fw_c b0 ≠ 0 → G 47 [some (2, 65, 0), some (2, 1, 0), some (2, 3, 0), some (0, 0, a3), some (0, 0, a4), some (0, 0, a5), some (0, 0, a6), o7] [] σ) ∧ (fw_c b0 = 0 → sp_isWord [(2, 1, 0), (4, 0, 7)] σ (fun rv σ2 => G 44 [some (2, 65, 0), some (2, 1, 0), some (2, 3, 0), some (0, 0, a3), some (0, 0, a4), some (0, 0, a5), some (0, 0, a6), o7] (rv.toList ++ []) σ2))) : G 34 [some (2, 65, 0), some (2, 1, 0), some (2, 3, 0), some (0, 0, a3), some (0, 0, a4), some (0, 0, a5), some (0, 0, a6), o7] [(0, 0, b0)] σ := fw_on hG [7, 15, 34, 44, 47, 54, 72, 84, 91, 98, 111, 117, 128] 200 h
theorem fs_seCond5_128 {G : fw_K} {R : fw_KR} (hG : fw_cls st_seCond5 R G) {a4 : Int} {o1 o2 o3 o5 o6 o7 : Option ab_AV} {σ : ab_SG} (h : (0 ≤ fw_c a4 ∧ fw_c a4 ≤ 1) ∧ R (some (0, 0, a4)) σ) : G 128 [some (2, 65, 0), o1, o2, o3, some (0, 0, a4), o5, o6, o7] [] σ := fw_on hG [7, 15, 34, 44, 47, 54, 72, 84, 91, 98, 111, 117, 128] 200 h
theorem fs_seCond5_47 {G : fw_K} {R : fw_KR} (hG : fw_cls st_seCond5 R G) {a3 a4 a5 a6 : Int} {o7 : Option ab_AV} {σ : ab_SG} (h : sp_isWord [(2, 1, 0), (4, 0, 8)] σ (fun rv σ2 => G 54 [some (2, 65, 0), some (2, 1, 0), some (2, 3, 0), some (0, 0, a3), some (0, 0, a4), some (0, 0, a5), some (0, 0, a6), o7] (rv.toList ++ []) σ2)) : G 47 [some (2, 65, 0), some (2, 1, 0), some (2, 3, 0), some (0, 0, a3), some (0, 0, a4), some (0, 0, a5), some (0, 0, a6), o7] [] σ := fw_on hG [7, 15, 34, 44, 47, 54, 72, 84, 91, 98, 111, 117, 128] 200 h
theorem fs_seCond5_44 {G : fw_K} {R : fw_KR} (hG : fw_cls st_seCond5 R G) {a3 a4 a5 a6 b0 : Int} {o7 : Option ab_AV} {σ : ab_SG} (h : (fw_c b0 = 0 → G 117 [some (2, 65, 0), some (2, 1, 0), some (2, 3, 0), some (0, 0, a3), some (0, 0, a4), some (0, 0, a5), some (0, 0, a6), o7] [] σ) ∧ (fw_c b0 ≠ 0 → G 47 [some (2, 65, 0), some (2, 1, 0), some (2, 3, 0), some (0, 0, a3), some (0, 0, a4), some (0, 0, a5), some (0, 0, a6), o7] [] σ)) : G 44 [some (2, 65, 0), some (2, 1, 0), some (2, 3, 0), some (0, 0, a3), some (0, 0, a4), some (0, 0, a5), some (0, 0, a6), o7] [(0, 0, b0)] σ := fw_on hG [7, 15, 34, 44, 47, 54, 72, 84, 91, 98, 111, 117, 128] 200 h
theorem fs_seCond5_54 {G : fw_K} {R : fw_KR} (hG : fw_cls st_seCond5 R G) {a3 a4 a5 a6 b0 : Int} {o7 : Option ab_AV} {σ : ab_SG} (h : (fw_c b0 ≠ 0 → G 72 [some (2, 65, 0), some (2, 1, 0), some (2, 3, 0), some (0, 0, a3), some (0, 0, a4), some (0, 0, a5), some (0, 0, a6), some (0, 0, b0)] [] σ) ∧ (fw_c b0 = 0 → (fw_c a5 = 0 → G 72 [some (2, 65, 0), some (2, 1, 0), some (2, 3, 0), some (0, 0, a3), some (0, 0, a4), some (0, 0, a5), some (0, 0, a6), some (0, 0, b0)] [] σ) ∧ (fw_c a5 ≠ 0 → sp_seAdd [(2, 65, 0), (0, 0, 2), (0, 0, 0)] σ (fun rv σ2 => G 72 [some (2, 65, 0), some (2, 1, 0), some (2, 3, 0), some (0, 0, a3), some (0, 0, a4), some (0, 0, a5), some (0, 0, a6), some (0, 0, b0)] (rv.toList ++ []) σ2)))) : G 54 [some (2, 65, 0), some (2, 1, 0), some (2, 3, 0), some (0, 0, a3), some (0, 0, a4), some (0, 0, a5), some (0, 0, a6), o7] [(0, 0, b0)] σ := fw_on hG [7, 15, 34, 44, 47, 54, 72, 84, 91, 98, 111, 117, 128] 200 h
theorem fs_seCond5_72 {G : fw_K} {R : fw_KR} (hG : fw_cls st_seCond5 R G) {a3 a4 a5 a6 a7 : Int} {σ : ab_SG} (h : (fw_c a7 ≠ 0 → G 84 [some (2, 65, 0), some (2, 1, 0), some (2, 3, 0), some (0, 0, a3), some (0, 0, a4), some (0, 0, a5), some (0, 0, a6), some (0, 0, a7)] [(0, 0, 0), (0, 0, a5)] σ) ∧ (fw_c a7 = 0 → G 84 [some (2, 65, 0), some (2, 1, 0), some (2, 3, 0), some (0, 0, a3), some (0, 0, a4), some (0, 0, a5), some (0, 0, a6), some (0, 0, a7)] [(0, 0, 1), (0, 0, a5)] σ)) : G 72 [some (2, 65, 0), some (2, 1, 0), some (2, 3, 0), some (0, 0, a3), some (0, 0, a4), some (0, 0, a5), some (0, 0, a6), some (0, 0, a7)] [] σ := fw_on hG [7, 15, 34, 44, 47, 54, 72, 84, 91, 98, 111, 117, 128] 200 h
theorem fs_seCond5_84 {G : fw_K} {R : fw_KR} (hG : fw_cls st_seCond5 R G) {a3 a4 a6 a7 b0 b1 : Int} {o5 : Option ab_AV} {σ : ab_SG} (h : sp_step [(2, 1, 0)] σ (fun rv σ2 => G 91 [some (2, 65, 0), some (2, 1, 0), some (2, 3, 0), some (0, 0, a3), some (0, 0, a4), some (0, 0, fw_op 9 b1 b0), some (0, 0, a6), some (0, 0, a7)] (rv.toList ++ []) σ2)) : G 84 [some (2, 65, 0), some (2, 1, 0), some (2, 3, 0), some (0, 0, a3), some (0, 0, a4), o5, some (0, 0, a6), some (0, 0, a7)] [(0, 0, b0), (0, 0, b1)] σ := fw_on hG [7, 15, 34, 44, 47, 54, 72, 84, 91, 98, 111, 117, 128] 200 h
theorem fs_seCond5_91 {G : fw_K} {R : fw_KR} (hG : fw_cls st_seCond5 R G) {a3 a4 a5 a6 a7 : Int} {σ : ab_SG} (h : sp_seOne 5 [(2, 65, 0), (2, 1, 0), (2, 3, 0), (0, 0, a3)] σ (fun rv σ2 => G 98 [some (2, 65, 0), some (2, 1, 0), some (2, 3, 0), some (0, 0, a3), some (0, 0, a4), some (0, 0, a5), some (0, 0, a6), some (0, 0, a7)] (rv.toList ++ []) σ2)) : G 91 [some (2, 65, 0), some (2, 1, 0), some (2, 3, 0), some (0, 0, a3), some (0, 0, a4), some (0, 0, a5), some (0, 0, a6), some (0, 0, a7)] [] σ := fw_on hG [7, 15, 34, 44, 47, 54, 72, 84, 91, 98, 111, 117, 128] 200 h
theorem fs_seCond5_98 {G : fw_K} {R : fw_KR} (hG : fw_cls st_seCond5 R G) {a3 a4 a5 a6 a7 b0 : Int} {σ : ab_SG} (h : (fw_c a7 = 0 → G 111 [some (2, 65, 0), some (2, 1, 0), some (2, 3, 0), some (0, 0, a3), some (0, 0, b0), some (0, 0, a5), some (0, 0, a6), some (0, 0, a7)] [] σ) ∧ (fw_c a7 ≠ 0 → sp_seAdd [(2, 65, 0), (0, 0, 1), (0, 0, 0)] σ (fun rv σ2 => G 111 [some (2, 65, 0), some (2, 1, 0), some (2, 3, 0), some (0, 0, a3), some (0, 0, b0), some (0, 0, a5), some (0, 0, a6), some (0, 0, a7)] (rv.toList ++ []) σ2))) : G 98 [some (2, 65, 0), some (2, 1, 0), some (2, 3, 0), some (0, 0, a3), some (0, 0, a4), some (0, 0, a5), some (0, 0, a6), some (0, 0, a7)] [(0, 0, b0)] σ := fw_on hG [7, 15, 34, 44, 47, 54, 72, 84, 91, 98, 111, 117, 128] 200 h
theorem fs_seCond5_111 {G : fw_K} {R : fw_KR} (hG : fw_cls st_seCond5 R G) {a3 a4 a5 a6 : Int} {o7 : Option ab_AV} {σ : ab_SG} (h : G 15 [some (2, 65, 0), some (2, 1, 0), some (2, 3, 0), some (0, 0, a3), some (0, 0, a4), some (0, 0, a5), some (0, 0, a6 + 1), o7] [] σ) : G 111 [some (2, 65, 0), some (2, 1, 0), some (2, 3, 0), some (0, 0, a3), some (0, 0, a4), some (0, 0, a5), some (0, 0, a6), o7] [] σ := fw_on hG [7, 15, 34, 44, 47, 54, 72, 84, 91, 98, 111, 117, 128] 200 h
section
variable {l : Launch} {cy : Nat → ClassId} {ad wr cr : Nat → Nat} {D : va_G}
theorem fm_seOne5 (hinj : nn_inj ad) : fw_H l cy ad wr cr D 175 15 (sp_seOne 5) := fw_mk hinj (⟨"NameNotes$Sentence", "readOne", "(LNameNotes$Tape;LNameNotes$Studio;I)Z"⟩, prog_7_method_6_code, 7, (Option.some Jvm.ClassFile.FieldType.boolean), 3, true, 1) rfl rfl nn_KI5_ok nn_KJ5_ok nn_PF5_ok nn_PS5_ok (by decide +kernel) rfl rfl (List.forall_mem_cons.mpr ⟨fw_row nn_PM5_ok (x := 41) (k := 0) (mn := 174) (np := 3) (ob := true) (ci := 5) (⟨"NameNotes$Sentence", "readCond", "(LNameNotes$Tape;LNameNotes$Studio;I)Z"⟩, prog_7_method_5_code, 8, (Option.some Jvm.ClassFile.FieldType.boolean), 3, true, 1) rfl (by decide +kernel) rfl rfl (by decide) (fun _ => ⟨_, _, rfl⟩) (fm_seCond4 hinj), (List.forall_mem_cons.mpr ⟨fw_row nn_PM5_ok (x := 48) (k := 0) (mn := 22) (np := 1) (ob := true) (ci := 8) (⟨"NameNotes$Tape", "refuse", "(I)Z"⟩, prog_10_method_14_code, 2, (Option.some Jvm.ClassFile.FieldType.boolean), 1, true, 1) rfl (by decide +kernel) rfl rfl (by decide) (fun _ => ⟨_, _, rfl⟩) (fm_refuse hinj), (List.forall_mem_cons.mpr ⟨fw_row nn_PM5_ok (x := 52) (k := 0) (mn := 175) (np := 3) (ob := true) (ci := 5) (⟨"NameNotes$Sentence", "readOne", "(LNameNotes$Tape;LNameNotes$Studio;I)Z"⟩, prog_7_method_6_code, 7, (Option.some Jvm.ClassFile.FieldType.boolean), 3, true, 1) rfl (by decide +kernel) rfl rfl (by decide) (fun _ => ⟨_, _, rfl⟩) (fm_seOne4 hinj), (List.forall_mem_cons.mpr ⟨fw_row nn_PM5_ok (x := 68) (k := 0) (mn := 177) (np := 2) (ob := true) (ci := 5) (⟨"NameNotes$Sentence", "addStep", "(II)V"⟩, prog_7_method_10_code, 3, (Option.none : Option Jvm.ClassFile.FieldType), 2, true, 4) rfl (by decide +kernel) rfl rfl (by decide) (fun _ => ⟨_, _, rfl⟩) (fm_seAdd hinj), (List.forall_mem_cons.mpr ⟨fw_row nn_PM5_ok (x := 72) (k := 0) (mn := 10) (np := 0) (ob := true) (ci := 8) (⟨"NameNotes$Tape", "step", "()V"⟩, prog_10_method_5_code, 2, (Option.none : Option Jvm.ClassFile.FieldType), 0, true, 4) rfl (by decide +kernel) rfl rfl (by decide) (fun _ => ⟨_, _, rfl⟩) (fm_step hinj), (List.forall_mem_cons.mpr ⟨fw_row nn_PM5_ok (x := 75) (k := 0) (mn := 176) (np := 1) (ob := false) (ci := 0) (⟨"NameNotes$Sentence", "kindOf", "(LNameNotes$Tape;)I"⟩, prog_7_method_9_code, 1, (Option.some Jvm.ClassFile.FieldType.int), 1, false, 0) rfl (by decide +kernel) rfl rfl (by decide) (fun q => by cases q) (fm_seKind hinj), (List.forall_mem_cons.mpr ⟨fw_row nn_PM5_ok (x := 79) (k := 0) (mn := 40) (np := 1) (ob := true) (ci := 8) (⟨"NameNotes$Tape", "takeSign", "(I)Z"⟩, prog_10_method_13_code, 2, (Option.some Jvm.ClassFile.FieldType.boolean), 1, true, 1) rfl (by decide +kernel) rfl rfl (by decide) (fun _ => ⟨_, _, rfl⟩) (fm_takeSign hinj), (List.forall_mem_cons.mpr ⟨fw_row nn_PM5_ok (x := 82) (k := 0) (mn := 178) (np := 3) (ob := true) (ci := 5) (⟨"NameNotes$Sentence", "readNamed", "(LNameNotes$Tape;LNameNotes$Studio;I)Z"⟩, prog_7_method_7_code, 5, (Option.some Jvm.ClassFile.FieldType.boolean), 3, true, 1) rfl (by decide +kernel) rfl rfl (by decide) (fun _ => ⟨_, _, rfl⟩) (fm_seNamed hinj), (List.forall_mem_cons.mpr ⟨fw_row nn_PM5_ok (x := 85) (k := 0) (mn := 179) (np := 2) (ob := true) (ci := 5) (⟨"NameNotes$Sentence", "readMeasured", "(LNameNotes$Tape;I)Z"⟩, prog_7_method_8_code, 4, (Option.some Jvm.ClassFile.FieldType.boolean), 2, true, 1) rfl (by decide +kernel) rfl rfl (by decide) (fun _ => ⟨_, _, rfl⟩) (fm_seMeas hinj), (fun _ h => absurd h List.not_mem_nil)⟩)⟩)⟩)⟩)⟩)⟩)⟩)⟩)⟩) (fun as σ K h => by
  obtain ⟨A, e, p, o, rfl, hN, E, ⟨h4, ho⟩, h⟩ := h
  have tk1 := (tk_can e p).1
  have m1 : fw_c (-1) = -1 := fw_s (by decide) (by decide)
  have c40 : fw_c 40 = 40 := fw_s (by decide) (by decide)
  have c20 : fw_c 20 = 20 := fw_s (by decide) (by decide)
  have c8 : fw_c 8 = 8 := fw_s (by decide) (by decide)
  have c6 : fw_c 6 = 6 := fw_s (by decide) (by decide)
  have cd : fw_c (9 - ((5 : Nat) : Int)) = 9 - ((5 : Nat) : Int) := fw_s (by decide) (by decide)
  have c4 : fw_c (σ 65 4) = (o : Int) := by rw [h4]; exact fw_s (by omega) (by omega)
  have sv := sk_in e p
  have csk : fw_c (sk_v e p) = sk_v e p := fw_s (by omega) (by omega)
  have n40 : (tk e p).1 = 40 → ¬ (9 ≤ tw e p ∧ tw e p ≤ 16) := fun z y => by
    have := tw_k (e := e) (p := p) (by omega)
    omega
  refine ⟨rfl, fun G hG => fs_seOne5_0 hG ⟨e, p, rfl, E, fs_seOne5_4 hG ?_⟩⟩
  rw [E.kind.2, c40]
  have four : sn_st e p → sn_one A e 5 o p = (4, ev_st e p, o, p) → ∀ a5 : Int, G 54 [some (2, 65, 0), some (2, 1, 0), some (2, 3, 0), some (0, 0, 9 - ((5 : Nat) : Int)), some (0, 0, sk_v e p), some (0, 0, a5), none] [] σ := fun y en a5 => by
    rw [en] at h
    exact fs_seOne5_54 hG ⟨4, rfl, E.rf (x := 4) (v := 0) (K := fun rv σ2 => G 59 [some (2, 65, 0), some (2, 1, 0), some (2, 3, 0), some (0, 0, 9 - ((5 : Nat) : Int)), some (0, 0, sk_v e p), some (0, 0, a5), none] (rv.toList ++ []) σ2) (by decide) (fun σ' a b c => fs_seOne5_59 hG ⟨fw_01, h.1 (show (4 : Int) ≠ 0 by decide) σ' (ev_up a (by decide)) b c⟩)⟩
  have go : sn_st e p → ∀ a5 : Int, ((a5 = 1 ∧ (tk e p).1 = 40) ∨ (a5 = 0 ∧ (tk e p).1 ≠ 40)) → G 39 [some (2, 65, 0), some (2, 1, 0), some (2, 3, 0), some (0, 0, 9 - ((5 : Nat) : Int)), some (0, 0, sk_v e p), some (0, 0, a5), none] [] σ := by
    intro y a5 h5
    refine fs_seOne5_39 hG ?_
    rw [c4, c20, c8, cd, h4]
    refine ⟨fun z => four y ?_ a5, fun z => ⟨fun _ => ⟨rfl, ?_⟩, fun z => absurd z (by decide)⟩⟩
    · rw [show sn_one A e 5 o p = _ from sn_one_s A e 4 o p, if_neg (fun w => w y), if_pos (by omega)]
    have en : sn_one A e 5 o p = _ := sn_one_s A e 4 o p
    rw [if_neg (fun w => w y), if_neg (by omega)] at en
    have ln : sl_one A e 5 o p = _ := sl_one_s A e 4 o p
    have co : fw_c ((o : Int) + 1) = ((o + 1 : Nat) : Int) := fw_s (by omega) (by omega)
    rw [co]
    have E1 : eD (ab_ups σ 65 4 ((o + 1 : Nat) : Int)) e p := E.M (M := [(65, 4)]) okM_one (by decide) (by decide)
    have M1 : ab_okM sN_M σ (ab_ups σ 65 4 ((o + 1 : Nat) : Int)) := fw_okM_ups (fw_okM_refl _ _) (by decide)
    have Q1 : ab_okM [(65, 4)] σ (ab_ups σ 65 4 ((o + 1 : Nat) : Int)) := okM_one
    have f1 : (ab_ups σ 65 4 ((o + 1 : Nat) : Int)) 65 4 = ((o + 1 : Nat) : Int) := ab_ups_eq
    generalize ab_ups σ 65 4 ((o + 1 : Nat) : Int) = σ1 at E1 M1 Q1 f1 ⊢
    refine ⟨E1.st.1, fun σ2 N2 S2 => fs_seOne5_74 hG ?_⟩
    have E2 := E1.st.2 σ2 N2 S2
    have M2 : ab_okM sN_M σ σ2 := ev_tr M1 (ev_up N2 (by decide))
    have p2 : pk σ σ2 [] := pk_l (pk_k (M := [(65, 4)]) Q1 (by decide)) (pk_k N2 (by decide))
    have f2 : σ2 65 4 = ((o + 1 : Nat) : Int) := (mk_row N2 (k := 65) (by decide) 4).trans f1
    have N2' : NC σ2 A := ev_NC M2 (by decide +kernel) hN
    rw [csk, c6]
    -- what comes back is told on
    have p156 : ∀ (r : sn_T) (L : sl_T), sn_one A e 5 o p = r → sl_one A e 5 o p = L → sl_post σ2 r L e (fun rv σ3 => G 156 [some (2, 65, 0), some (2, 1, 0), some (2, 3, 0), some (0, 0, 9 - ((5 : Nat) : Int)), some (0, 0, sk_v e p), some (0, 0, a5), none] (rv.toList ++ []) σ3) := by
      intro r L er el
      rw [er, el] at h
      exact ⟨fun q σ' M a b => fs_seOne5_156 hG ⟨fw_01, h.1 q σ' (ev_tr M2 M) a b⟩, fun q σ' M a b c => fs_seOne5_156 hG ⟨fw_11, h.2 q σ' (ev_tr M2 M) a b (pk_l p2 c)⟩⟩
    refine ⟨fun z5 => ?_, fun z5 => ?_⟩
    · have n4 : (tk e p).1 ≠ 40 := by
        rcases h5 with ⟨q, -⟩ | ⟨-, q⟩
        · rw [q] at z5
          exact absurd (fw_c1.symm.trans z5) (by decide)
        · exact q
      have y2 : 9 ≤ tw e p ∧ tw e p ≤ 16 := y.resolve_left n4
      rw [if_neg n4] at en ln
      refine ⟨fun z6 => ⟨fun z7 => ?_, fun z7 => ?_⟩, fun z6 => ?_⟩
      · rw [if_neg (by omega), if_neg (by omega), if_neg (by omega), if_neg (by omega)] at en ln
        exact ⟨e, tn e p, o + 1, _, rfl, ⟨by omega, by omega⟩, E2, f2, p156 _ _ en ln⟩
      · rw [if_neg (by omega)] at en ln
        have nmd : ∀ (r : sn_T) (L : sl_T), sn_one A e 5 o p = r → sl_one A e 5 o p = L → sl_post σ2 r L e (fun rv σ3 => G 146 [some (2, 65, 0), some (2, 1, 0), some (2, 3, 0), some (0, 0, 9 - ((5 : Nat) : Int)), some (0, 0, sk_v e p), some (0, 0, a5), none] (rv.toList ++ []) σ3) := fun r L er el => ⟨fun q σ' M a b => fs_seOne5_146 hG ((p156 r L er el).1 q σ' M a b), fun q σ' M a b c => fs_seOne5_146 hG ((p156 r L er el).2 q σ' M a b c)⟩
        refine ⟨A, e, tn e p, o + 1, _, rfl, N2', E2, f2, ?_⟩
        by_cases w1 : tw e p = 10
        · rw [if_pos w1] at en ln
          exact Or.inl ⟨by omega, nmd _ _ en ln⟩
        rw [if_neg w1] at en ln
        by_cases w2 : tw e p = 11
        · rw [if_pos w2] at en ln
          exact Or.inr (Or.inl ⟨by omega, nmd _ _ en ln⟩)
        rw [if_neg w2, if_pos (by omega)] at en ln
        exact Or.inr (Or.inr ⟨by omega, nmd _ _ en ln⟩)
      · rw [if_pos (by omega)] at en ln
        rw [en, ln] at h
        refine ⟨A, e, tn e p, o + 1, rfl, N2', E2, ⟨f2, by omega⟩, fun q σ' M a b => fs_seOne5_120 hG ⟨0, 0, rfl, fun σ4 M4 _ => fs_seOne5_128 hG ⟨fw_01, h.1 q σ4 (ev_tr (ev_tr M2 M) (ev_up M4 (by decide))) ((mk_row M4 (k := 1) (by decide) 9).trans a) ((mk_row M4 (k := 1) (by decide) 10).trans b)⟩⟩, fun q σ' M a b c => fs_seOne5_120 hG ⟨0, 0, rfl, fun σ4 M4 P4 => fs_seOne5_128 hG ⟨fw_11, h.2 q σ4 (ev_tr (ev_tr M2 M) (ev_up M4 (by decide))) (a.M M4 (by decide) (by decide)) ((mk_at M4 (k := 65) (j := 4) (by decide)).trans b) (pk_tr (pk_l p2 c) (P4 fw_c0 fw_c0))⟩⟩⟩
    · have n4 : (tk e p).1 = 40 := by
        rcases h5 with ⟨-, q⟩ | ⟨q, -⟩
        · exact q
        · rw [q] at z5
          exact absurd fw_c0 z5
      rw [if_pos n4] at en ln
      generalize hr : sn_cd (sn_one A e 4) e (o + 1) (tn e p) = r at en
      rw [en, ln] at h
      refine ⟨A, e, tn e p, o + 1, rfl, N2', E2, ⟨f2, by omega⟩, ?_⟩
      rw [hr]
      refine ⟨fun q σ' M a b => ?_, fun q σ' M E3 f3 p3 => ?_⟩
      · rw [show sn_br e r = r from if_pos q] at h
        exact fs_seOne5_88 hG ⟨fun _ => ⟨fw_01, h.1 q σ' (ev_tr M2 M) a b⟩, fun z => absurd fw_c0 z⟩
      · have M3 : ab_okM sN_M σ σ' := ev_tr M2 M
        refine fs_seOne5_88 hG ⟨fun z => absurd (fw_c1.symm.trans z) (by decide), fun _ => E3.sg (by decide) (fun w σ4 a b c => ?_) (fun w σ4 M4 E4 => ?_)⟩
        · have eb : sn_br e r = (1, ev_st e r.2.2.2, r.2.2.1, r.2.2.2) := (if_neg (fun z => z q)).trans (if_pos w)
          rw [eb] at h
          exact fs_seOne5_97 hG ⟨fun _ => ⟨fw_01, h.1 (show (1 : Int) ≠ 0 by decide) σ4 (ev_tr M3 (ev_up a (by decide))) b c⟩, fun z => absurd fw_c0 z⟩
        · have eb : sn_br e r = (0, 0, r.2.2.1, tn e r.2.2.2) := (if_neg (fun z => z q)).trans (if_neg (fun z => z w))
          rw [eb] at h
          exact fs_seOne5_97 hG ⟨fun z => absurd (fw_c1.symm.trans z) (by decide), fun _ => ⟨fw_11, h.2 rfl σ4 (ev_tr M3 (ev_up M4 (by decide))) E4 ((mk_row M4 (k := 65) (by decide) 4).trans f3) (pk_l p2 (pk_r p3 (pk_k M4 (by decide))))⟩⟩
  have no : ¬ sn_st e p → G 20 [some (2, 65, 0), some (2, 1, 0), some (2, 3, 0), some (0, 0, 9 - ((5 : Nat) : Int)), some (0, 0, sk_v e p), none, none] [(0, 0, 0)] σ := fun y => by
    have en : sn_one A e 5 o p = (1, ev_st e p, o, p) := (sn_one_s A e 4 o p).trans (if_pos y)
    rw [en] at h
    have ek : sk_v e p = -1 := by
      have : ¬ (9 ≤ tw e p ∧ tw e p ≤ 16) := fun z => y (Or.inr z)
      omega
    refine fs_seOne5_20 hG ⟨fun z => absurd (by rw [ek]) z, fun _ => ⟨fun z => absurd fw_c0 z, fun _ => ⟨1, rfl, E.rf (x := 1) (v := 0) (K := fun rv σ2 => G 38 [some (2, 65, 0), some (2, 1, 0), some (2, 3, 0), some (0, 0, 9 - ((5 : Nat) : Int)), some (0, 0, sk_v e p), some (0, 0, 0), none] (rv.toList ++ []) σ2) (by decide) (fun σ' a b c => fs_seOne5_38 hG ⟨fw_01, h.1 (show (1 : Int) ≠ 0 by decide) σ' (ev_up a (by decide)) b c⟩)⟩⟩⟩
  refine ⟨fun z => ?_, fun z => ?_⟩
  · by_cases y : sn_st e p
    · have y2 : 9 ≤ tw e p ∧ tw e p ≤ 16 := y.resolve_left z
      exact fs_seOne5_20 hG ⟨fun _ => go y 0 (Or.inr ⟨rfl, z⟩), fun u => absurd u (by rw [csk, m1]; omega)⟩
    · exact no y
  · have y : sn_st e p := Or.inl z
    have ek : sk_v e p = -1 := by
      have := n40 z
      omega
    exact fs_seOne5_20 hG ⟨fun u => absurd (by rw [ek]) u, fun _ => ⟨fun _ => go y 1 (Or.inl ⟨rfl, z⟩), fun u => absurd (fw_c1.symm.trans u) (by decide)⟩⟩)
theorem fm_seCond5 (hinj : nn_inj ad) : fw_H l cy ad wr cr D 174 16 (sp_seCond 5) := fw_mk hinj (⟨"NameNotes$Sentence", "readCond", "(LNameNotes$Tape;LNameNotes$Studio;I)Z"⟩, prog_7_method_5_code, 8, (Option.some Jvm.ClassFile.FieldType.boolean), 3, true, 1) rfl rfl nn_KI5_ok nn_KJ5_ok nn_PF5_ok nn_PS5_ok (by decide +kernel) rfl rfl (List.forall_mem_cons.mpr ⟨fw_row nn_PM5_ok (x := 52) (k := 0) (mn := 175) (np := 3) (ob := true) (ci := 5) (⟨"NameNotes$Sentence", "readOne", "(LNameNotes$Tape;LNameNotes$Studio;I)Z"⟩, prog_7_method_6_code, 7, (Option.some Jvm.ClassFile.FieldType.boolean), 3, true, 1) rfl (by decide +kernel) rfl rfl (by decide) (fun _ => ⟨_, _, rfl⟩) (fm_seOne5 hinj), (List.forall_mem_cons.mpr ⟨fw_row nn_PM5_ok (x := 61) (k := 0) (mn := 20) (np := 1) (ob := true) (ci := 8) (⟨"NameNotes$Tape", "isWord", "(LNameNotes$Word;)Z"⟩, prog_10_method_10_code, 2, (Option.some Jvm.ClassFile.FieldType.boolean), 1, true, 1) rfl (by decide +kernel) rfl rfl (by decide) (fun _ => ⟨_, _, rfl⟩) (fm_isWord hinj), (List.forall_mem_cons.mpr ⟨fw_row nn_PM5_ok (x := 68) (k := 0) (mn := 177) (np := 2) (ob := true) (ci := 5) (⟨"NameNotes$Sentence", "addStep", "(II)V"⟩, prog_7_method_10_code, 3, (Option.none : Option Jvm.ClassFile.FieldType), 2, true, 4) rfl (by decide +kernel) rfl rfl (by decide) (fun _ => ⟨_, _, rfl⟩) (fm_seAdd hinj), (List.forall_mem_cons.mpr ⟨fw_row nn_PM5_ok (x := 72) (k := 0) (mn := 10) (np := 0) (ob := true) (ci := 8) (⟨"NameNotes$Tape", "step", "()V"⟩, prog_10_method_5_code, 2, (Option.none : Option Jvm.ClassFile.FieldType), 0, true, 4) rfl (by decide +kernel) rfl rfl (by decide) (fun _ => ⟨_, _, rfl⟩) (fm_step hinj), (fun _ h => absurd h List.not_mem_nil)⟩)⟩)⟩)⟩) (fun as σ K h => by
  obtain ⟨A, e, p, o, rfl, hN, E, ⟨h4, ho⟩, h⟩ := h
  have c20 : fw_c 20 = 20 := fw_s (by decide) (by decide)
  have c2 : fw_c 2 = 2 := fw_s (by decide) (by decide)
  have og := sn_one_gr A e 5
  refine ⟨rfl, fun G hG => ?_⟩
  have ex0 : ∀ (τ : ab_SG) (a5 a6 : Int) (o7 : Option ab_AV), (∀ τ' : ab_SG, ab_okM se_M τ τ' → K (some (0, 0, 0)) τ') → G 15 [some (2, 65, 0), some (2, 1, 0), some (2, 3, 0), some (0, 0, 9 - ((5 : Nat) : Int)), some (0, 0, 0), some (0, 0, a5), some (0, 0, a6), o7] [] τ := by
    intro τ a5 a6 o7 k
    have g : G 117 [some (2, 65, 0), some (2, 1, 0), some (2, 3, 0), some (0, 0, 9 - ((5 : Nat) : Int)), some (0, 0, 0), some (0, 0, a5), some (0, 0, a6), o7] [] τ := fs_seCond5_117 hG ⟨fun _ => fs_seCond5_128 hG ⟨fw_01, k τ (fw_okM_refl _ _)⟩, fun _ => ⟨_, _, rfl, fun τ' M _ => fs_seCond5_128 hG ⟨fw_01, k τ' M⟩⟩⟩
    exact fs_seCond5_15 hG ⟨fun _ => g, fun _ => ⟨fun _ => g, fun z => absurd fw_c0 z⟩⟩
  have ex1 : ∀ (τ : ab_SG) (w : Bool) (a6 : Int) (o7 : Option ab_AV), (∀ τ' : ab_SG, ab_okM se_M τ τ' → pk τ τ' (fl w) → K (some (0, 0, 1)) τ') → G 117 [some (2, 65, 0), some (2, 1, 0), some (2, 3, 0), some (0, 0, 9 - ((5 : Nat) : Int)), some (0, 0, 1), some (0, 0, bI w), some (0, 0, a6), o7] [] τ := fun τ w a6 o7 k =>
    fs_seCond5_117 hG ⟨fun z => fs_seCond5_128 hG ⟨fw_11, k τ (fw_okM_refl _ _) (by rw [bI_0 z]; exact pk_0 τ)⟩, fun z => ⟨_, _, rfl, fun τ' M P => fs_seCond5_128 hG ⟨fw_11, k τ' M (by rw [bI_1 z]; exact P c2 fw_c0)⟩⟩⟩
  have add : ∀ {τ τ' : ab_SG}, ab_okM se_M τ τ' → ab_okM sN_M τ τ' := fun M => ev_up M (by decide)
  have loop : ∀ (g i o1 p1 : Nat) (τ : ab_SG) (w : Bool) (L1 : sl_T) (o7 : Option ab_AV), i + g = 20 → i + 1 ≤ o1 → o1 ≤ 20 → ab_okM sN_M σ τ → eD τ e p1 → τ 65 4 = (o1 : Int) → pk σ τ L1 → sn_cd (sn_one A e 5) e o p = sn_lp (sn_one A e 5) e g o1 p1 → sl_cd (sn_one A e 5) (sl_one A e 5) e o p = L1 ++ sl_lp (sn_one A e 5) (sl_one A e 5) e g w o1 p1 → G 15 [some (2, 65, 0), some (2, 1, 0), some (2, 3, 0), some (0, 0, 9 - ((5 : Nat) : Int)), some (0, 0, 1), some (0, 0, bI w), some (0, 0, (i : Int)), o7] [] τ := by
    intro g
    induction g with
    | zero =>
      intro i o1 p1 τ w L1 o7 hi h1 h2 _ _ _ _ _ _
      omega
    | succ g ih =>
      intro i o1 p1 τ w L1 o7 hi h1 h2 M E1 f1 hp hr hL
      have ci : fw_c (i : Int) = (i : Int) := fw_s (by omega) (by omega)
      rw [sn_lps] at hr
      rw [sl_lps] at hL
      have iw : ∀ (τ1 : ab_SG) (x : Int) (Q : fw_KR), eD τ1 e p1 → 0 ≤ x → x ≤ 16 → (tw e p1 = x → Q (some (0, 0, 1)) τ1) → (tw e p1 ≠ x → Q (some (0, 0, 0)) τ1) → sp_isWord [(2, 1, 0), (4, 0, x)] τ1 Q := by
        intro τ1 x Q E2 h1 h2 a b
        have kw := E2.kw
        refine ⟨x, rfl, ⟨kw.2.1, kw.2.2, by omega, h2⟩, ?_⟩
        by_cases c : tw e p1 = x
        · rw [fw_bo_t ((E2.isw h1).mpr c)]
          exact a c
        · rw [fw_bo_f (fun z => c ((E2.isw h1).mp z))]
          exact b c
      have u0 : ∀ {X : Prop}, fw_c 0 ≠ 0 → X := fun z => absurd fw_c0 z
      have u1 : ∀ {X : Prop}, fw_c 1 = 0 → X := fun z => absurd (fw_c1.symm.trans z) (by decide)
      have n1 : fw_c 1 ≠ 0 := fun z => u1 z
      have stop : ¬ (tw e p1 = 8 ∨ tw e p1 = 7) → G 117 [some (2, 65, 0), some (2, 1, 0), some (2, 3, 0), some (0, 0, 9 - ((5 : Nat) : Int)), some (0, 0, 1), some (0, 0, bI w), some (0, 0, (i : Int)), o7] [] τ := fun c => by
        rw [if_neg c] at hr
        rw [if_neg (fun z => c (Or.inl z)), if_neg (fun z => c (Or.inr z))] at hL
        rw [hr, hL] at h
        exact ex1 τ w _ o7 (fun τ' M' P' => h.2 rfl τ' (ev_tr M (add M')) (E1.M M' (by decide) (by decide)) ((mk_at M' (k := 65) (j := 4) (by decide)).trans f1) (pk_tr hp P'))
      have g84 : (tw e p1 = 8 ∨ tw e p1 = 7) → ∀ (τ1 : ab_SG) (a7 b0 : Int) (w2 : Bool) (L2 T : sl_T), fw_op 9 (bI w) b0 = bI w2 → ab_okM sN_M σ τ1 → eD τ1 e p1 → τ1 65 4 = (o1 : Int) → pk σ τ1 L2 → ((fw_c a7 = 0 ∧ T = []) ∨ (fw_c a7 ≠ 0 ∧ T = [(1, 0)])) → sl_cd (sn_one A e 5) (sl_one A e 5) e o p = L2 ++ (sl_one A e 5 o1 (tn e p1) ++ (T ++ sl_lp (sn_one A e 5) (sl_one A e 5) e g w2 (sn_one A e 5 o1 (tn e p1)).2.2.1 (sn_one A e 5 o1 (tn e p1)).2.2.2)) → G 84 [some (2, 65, 0), some (2, 1, 0), some (2, 3, 0), some (0, 0, 9 - ((5 : Nat) : Int)), some (0, 0, 1), some (0, 0, bI w), some (0, 0, (i : Int)), some (0, 0, a7)] [(0, 0, b0), (0, 0, bI w)] τ1 := by
        intro c τ1 a7 b0 w2 L2 T hb M1 E2 f2 hp2 hT hL2
        refine fs_seCond5_84 hG ⟨rfl, E2.st.1, fun τ2 N2 S2 => fs_seCond5_91 hG ?_⟩
        rw [hb]
        have E3 := E2.st.2 τ2 N2 S2
        have M2 : ab_okM sN_M σ τ2 := ev_tr M1 (ev_up N2 (by decide))
        have p2 : pk σ τ2 L2 := pk_r hp2 (pk_k N2 (by decide))
        rw [if_pos c] at hr
        refine ⟨A, e, tn e p1, o1, rfl, ev_NC M2 (by decide +kernel) hN, E3, ⟨(mk_row N2 (k := 65) (by decide) 4).trans f2, h2⟩, fun q σ' M3 a b => ?_, fun q σ' M3 E4 f4 p4 => ?_⟩
        · rw [if_pos q] at hr
          rw [hr] at h
          have k : ∀ τ' : ab_SG, ab_okM se_M σ' τ' → K (some (0, 0, 0)) τ' := fun τ' M' => h.1 q τ' (ev_tr (ev_tr M2 M3) (add M')) ((mk_row M' (k := 1) (by decide) 9).trans a) ((mk_row M' (k := 1) (by decide) 10).trans b)
          exact fs_seCond5_98 hG ⟨fun _ => fs_seCond5_111 hG (ex0 σ' _ _ _ k), fun _ => ⟨_, _, rfl, fun τ' M' _ => fs_seCond5_111 hG (ex0 τ' _ _ _ (fun τ'' M'' => k τ'' (ev_tr M' M'')))⟩⟩
        · rw [if_neg (fun z => z q)] at hr
          have gr := og o1 (tn e p1) h2 q
          have p5 : pk σ σ' (L2 ++ sl_one A e 5 o1 (tn e p1)) := pk_tr p2 p4
          have nx : ∀ τ' : ab_SG, ab_okM sN_M σ τ' → eD τ' e (sn_one A e 5 o1 (tn e p1)).2.2.2 → τ' 65 4 = ((sn_one A e 5 o1 (tn e p1)).2.2.1 : Int) → pk σ τ' (L2 ++ sl_one A e 5 o1 (tn e p1) ++ T) → G 111 [some (2, 65, 0), some (2, 1, 0), some (2, 3, 0), some (0, 0, 9 - ((5 : Nat) : Int)), some (0, 0, 1), some (0, 0, bI w2), some (0, 0, (i : Int)), some (0, 0, a7)] [] τ' := fun τ' M' E' f' p' => fs_seCond5_111 hG (by
            have g := ih (i + 1) _ _ τ' w2 _ (some (0, 0, a7)) (by omega) (by omega) gr.2 M' E' f' p' hr (by rw [hL2, List.append_assoc, List.append_assoc])
            rw [show ((i + 1 : Nat) : Int) = (i : Int) + 1 from rfl] at g
            exact g)
          rcases hT with ⟨z, eT⟩ | ⟨z, eT⟩
          · exact fs_seCond5_98 hG ⟨fun _ => nx σ' (ev_tr M2 M3) E4 f4 (by rw [eT, List.append_nil]; exact p5), fun y => absurd z y⟩
          · exact fs_seCond5_98 hG ⟨fun y => absurd y z, fun _ => ⟨_, _, rfl, fun τ' M' P' => nx τ' (ev_tr (ev_tr M2 M3) (add M')) (E4.M M' (by decide) (by decide)) ((mk_at M' (k := 65) (j := 4) (by decide)).trans f4) (by rw [eT]; exact pk_tr p5 (P' fw_c1 fw_c0))⟩⟩
      -- AND
      have ga : tw e p1 = 8 → G 47 [some (2, 65, 0), some (2, 1, 0), some (2, 3, 0), some (0, 0, 9 - ((5 : Nat) : Int)), some (0, 0, 1), some (0, 0, bI w), some (0, 0, (i : Int)), o7] [] τ := fun c8 => by
        rw [if_pos c8] at hL
        exact fs_seCond5_47 hG (iw τ 8 _ E1 (by decide) (by decide) (fun _ => fs_seCond5_54 hG ⟨fun _ => fs_seCond5_72 hG ⟨fun _ => g84 (Or.inl c8) τ 1 0 w L1 [(1, 0)] (bI_a w) M E1 f1 hp (Or.inr ⟨n1, rfl⟩) hL, u1⟩, u1⟩) (fun z => absurd c8 z))
      -- OR
      have gb : tw e p1 ≠ 8 → tw e p1 = 7 → ∀ τ1 : ab_SG, ab_okM sN_M σ τ1 → eD τ1 e p1 → τ1 65 4 = (o1 : Int) → pk σ τ1 (L1 ++ fl w) → G 72 [some (2, 65, 0), some (2, 1, 0), some (2, 3, 0), some (0, 0, 9 - ((5 : Nat) : Int)), some (0, 0, 1), some (0, 0, bI w), some (0, 0, (i : Int)), some (0, 0, 0)] [] τ1 := fun c8 c7 τ1 M1 E2 f2 hp2 => by
        rw [if_neg c8, if_pos c7] at hL
        exact fs_seCond5_72 hG ⟨u0, fun _ => g84 (Or.inr c7) τ1 0 1 true (L1 ++ fl w) [] (bI_o w) M1 E2 f2 hp2 (Or.inl ⟨fw_c0, rfl⟩) (by rw [List.append_assoc]; exact hL)⟩
      have go : tw e p1 ≠ 8 → tw e p1 = 7 → G 47 [some (2, 65, 0), some (2, 1, 0), some (2, 3, 0), some (0, 0, 9 - ((5 : Nat) : Int)), some (0, 0, 1), some (0, 0, bI w), some (0, 0, (i : Int)), o7] [] τ := fun c8 c7 =>
        fs_seCond5_47 hG (iw τ 8 _ E1 (by decide) (by decide) (fun z => absurd z c8) (fun _ => fs_seCond5_54 hG ⟨u0, fun _ => ⟨fun z => gb c8 c7 τ M E1 f1 (by rw [bI_0 z]; exact pk_tr hp (show pk τ τ (fl false) from pk_0 τ)), fun z => ⟨_, _, rfl, fun τ' M' P' => gb c8 c7 τ' (ev_tr M (add M')) (E1.M M' (by decide) (by decide)) ((mk_at M' (k := 65) (j := 4) (by decide)).trans f1) (by rw [bI_1 z]; exact pk_tr hp (P' c2 fw_c0))⟩⟩⟩))
      refine fs_seCond5_15 hG ⟨fun z => absurd z (by rw [c20, ci]; omega), fun _ => ⟨u1, fun _ => iw τ 8 _ E1 (by decide) (by decide) (fun c => fs_seCond5_34 hG ⟨fun _ => ga c, u1⟩) (fun c8 => fs_seCond5_34 hG ⟨u0, fun _ => iw τ 7 _ E1 (by decide) (by decide) (fun c => fs_seCond5_44 hG ⟨u1, fun _ => go c8 c⟩) (fun c7 => fs_seCond5_44 hG ⟨fun _ => stop (fun z => z.elim c8 c7), u0⟩)⟩)⟩⟩
  exact fs_seCond5_0 hG ⟨A, e, p, o, rfl, hN, E, ⟨h4, ho⟩, fun q σ' M a b => fs_seCond5_7 hG (ex0 σ' 0 0 none (fun τ' M' => by
    have en : sn_cd (sn_one A e 5) e o p = sn_one A e 5 o p := if_pos q
    rw [en] at h
    exact h.1 q τ' (ev_tr M (add M')) ((mk_row M' (k := 1) (by decide) 9).trans a) ((mk_row M' (k := 1) (by decide) 10).trans b))), fun q σ' M E' f' p' => fs_seCond5_7 hG (by
    have gr := og o p ho q
    exact loop 20 0 _ _ σ' false _ none rfl (by omega) gr.2 M E' f' p' (if_neg (fun z => z q)) rfl)⟩)
end
abbrev fk_seOne6 : List fw_CR := [(41, 3, true, 5, 16, sp_seCond 5), (48, 1, true, 8, 0, sp_refuse), (52, 3, true, 5, 15, sp_seOne 5), (68, 2, true, 5, 1, sp_seAdd), (72, 0, true, 8, 2, sp_step), (75, 1, false, 0, 1, sp_seKind), (79, 1, true, 8, 3, sp_takeSign), (82, 3, true, 5, 3, sp_seNamed), (85, 2, true, 5, 3, sp_seMeas)]
abbrev st_seOne6 : fw_K → fw_KR → fw_K := fw_st vwCl nn_sh nn_kd fw_kv fw_wc (nn_KI5.map (fun x => x.1)) (nn_KJ5.map (fun x => x.1)) (nn_PF5.map (fun x => x.1)) (nn_PS5.map (fun x => x.1)) fk_seOne6 17 nn_dt175 7 1
theorem fs_seOne6_0 {G : fw_K} {R : fw_KR} (hG : fw_cls st_seOne6 R G) {d : Int} {σ : ab_SG} (h : sp_seKind [(2, 1, 0)] σ (fun rv σ2 => G 4 [some (2, 65, 0), some (2, 1, 0), some (2, 3, 0), some (0, 0, d), none, none, none] (rv.toList ++ []) σ2)) : G 0 [some (2, 65, 0), some (2, 1, 0), some (2, 3, 0), some (0, 0, d), none, none, none] [] σ := fw_on hG [4, 20, 38, 39, 54, 59, 74, 88, 97, 120, 128, 146, 156] 200 h
theorem fs_seOne6_4 {G : fw_K} {R : fw_KR} (hG : fw_cls st_seOne6 R G) {a3 b0 : Int} {o4 o6 : Option ab_AV} {σ : ab_SG} (h : (fw_c (σ 1 5) ≠ fw_c 40 → G 20 [some (2, 65, 0), some (2, 1, 0), some (2, 3, 0), some (0, 0, a3), some (0, 0, b0), none, o6] [(0, 0, 0)] σ) ∧ (fw_c (σ 1 5) = fw_c 40 → G 20 [some (2, 65, 0), some (2, 1, 0), some (2, 3, 0), some (0, 0, a3), some (0, 0, b0), none, o6] [(0, 0, 1)] σ)) : G 4 [some (2, 65, 0), some (2, 1, 0), some (2, 3, 0), some (0, 0, a3), o4, none, o6] [(0, 0, b0)] σ := fw_on hG [4, 20, 38, 39, 54, 59, 74, 88, 97, 120, 128, 146, 156] 200 h
theorem fs_seOne6_20 {G : fw_K} {R : fw_KR} (hG : fw_cls st_seOne6 R G) {a3 a4 b0 : Int} {o6 : Option ab_AV} {σ : ab_SG} (h : (fw_c a4 ≠ fw_c (-1) → G 39 [some (2, 65, 0), some (2, 1, 0), some (2, 3, 0), some (0, 0, a3), some (0, 0, a4), some (0, 0, b0), o6] [] σ) ∧ (fw_c a4 = fw_c (-1) → (fw_c b0 ≠ 0 → G 39 [some (2, 65, 0), some (2, 1, 0), some (2, 3, 0), some (0, 0, a3), some (0, 0, a4), some (0, 0, b0), o6] [] σ) ∧ (fw_c b0 = 0 → sp_refuse [(2, 1, 0), (0, 0, 1)] σ (fun rv σ2 => G 38 [some (2, 65, 0), some (2, 1, 0), some (2, 3, 0), some (0, 0, a3), some (0, 0, a4), some (0, 0, b0), o6] (rv.toList ++ []) σ2)))) : G 20 [some (2, 65, 0), some (2, 1, 0), some (2, 3, 0), some (0, 0, a3), some (0, 0, a4), none, o6] [(0, 0, b0)] σ := fw_on hG [4, 20, 38, 39, 54, 59, 74, 88, 97, 120, 128, 146, 156] 200 h
theorem fs_seOne6_39 {G : fw_K} {R : fw_KR} (hG : fw_cls st_seOne6 R G) {a3 a4 a5 : Int} {o6 : Option ab_AV} {σ : ab_SG} (h : (fw_c 20 ≤ fw_c (σ 65 4) → G 54 [some (2, 65, 0), some (2, 1, 0), some (2, 3, 0), some (0, 0, a3), some (0, 0, a4), some (0, 0, a5), o6] [] σ) ∧ (fw_c (σ 65 4) < fw_c 20 → (fw_c a3 ≤ fw_c 8 → sp_step [(2, 1, 0)] (ab_ups σ 65 4 (fw_c ((σ 65 4) + 1))) (fun rv σ2 => G 74 [some (2, 65, 0), some (2, 1, 0), some (2, 3, 0), some (0, 0, a3), some (0, 0, a4), some (0, 0, a5), o6] (rv.toList ++ []) σ2)) ∧ (fw_c 8 < fw_c a3 → G 54 [some (2, 65, 0), some (2, 1, 0), some (2, 3, 0), some (0, 0, a3), some (0, 0, a4), some (0, 0, a5), o6] [] σ))) : G 39 [some (2, 65, 0), some (2, 1, 0), some (2, 3, 0), some (0, 0, a3), some (0, 0, a4), some (0, 0, a5), o6] [] σ := fw_on hG [4, 20, 38, 39, 54, 59, 74, 88, 97, 120, 128, 146, 156] 200 h
theorem fs_seOne6_38 {G : fw_K} {R : fw_KR} (hG : fw_cls st_seOne6 R G) {a5 b0 : Int} {o1 o2 o3 o4 o6 : Option ab_AV} {σ : ab_SG} (h : (0 ≤ fw_c b0 ∧ fw_c b0 ≤ 1) ∧ R (some (0, 0, b0)) σ) : G 38 [some (2, 65, 0), o1, o2, o3, o4, some (0, 0, a5), o6] [(0, 0, b0)] σ := fw_on hG [4, 20, 38, 39, 54, 59, 74, 88, 97, 120, 128, 146, 156] 200 h
theorem fs_seOne6_54 {G : fw_K} {R : fw_KR} (hG : fw_cls st_seOne6 R G) {a5 : Int} {o2 o3 o4 o6 : Option ab_AV} {σ : ab_SG} (h : sp_refuse [(2, 1, 0), (0, 0, 4)] σ (fun rv σ2 => G 59 [some (2, 65, 0), some (2, 1, 0), o2, o3, o4, some (0, 0, a5), o6] (rv.toList ++ []) σ2)) : G 54 [some (2, 65, 0), some (2, 1, 0), o2, o3, o4, some (0, 0, a5), o6] [] σ := fw_on hG [4, 20, 38, 39, 54, 59, 74, 88, 97, 120, 128, 146, 156] 200 h
theorem fs_seOne6_74 {G : fw_K} {R : fw_KR} (hG : fw_cls st_seOne6 R G) {a3 a4 a5 : Int} {o6 : Option ab_AV} {σ : ab_SG} (h : (fw_c a5 = 0 → (fw_c a4 ≠ 0 → (fw_c 6 ≤ fw_c a4 → sp_seMeas [(2, 65, 0), (2, 1, 0), (0, 0, a4)] σ (fun rv σ2 => G 156 [some (2, 65, 0), some (2, 1, 0), some (2, 3, 0), some (0, 0, a3), some (0, 0, a4), some (0, 0, a5), o6] (rv.toList ++ []) σ2)) ∧ (fw_c a4 < fw_c 6 → sp_seNamed [(2, 65, 0), (2, 1, 0), (2, 3, 0), (0, 0, a4)] σ (fun rv σ2 => G 146 [some (2, 65, 0), some (2, 1, 0), some (2, 3, 0), some (0, 0, a3), some (0, 0, a4), some (0, 0, a5), o6] (rv.toList ++ []) σ2))) ∧ (fw_c a4 = 0 → sp_seOne 5 [(2, 65, 0), (2, 1, 0), (2, 3, 0), (0, 0, a3 + 1)] σ (fun rv σ2 => G 120 [some (2, 65, 0), some (2, 1, 0), some (2, 3, 0), some (0, 0, a3), some (0, 0, a4), some (0, 0, a5), o6] (rv.toList ++ []) σ2))) ∧ (fw_c a5 ≠ 0 → sp_seCond 5 [(2, 65, 0), (2, 1, 0), (2, 3, 0), (0, 0, a3 + 1)] σ (fun rv σ2 => G 88 [some (2, 65, 0), some (2, 1, 0), some (2, 3, 0), some (0, 0, a3), some (0, 0, a4), some (0, 0, a5), o6] (rv.toList ++ []) σ2))) : G 74 [some (2, 65, 0), some (2, 1, 0), some (2, 3, 0), some (0, 0, a3), some (0, 0, a4), some (0, 0, a5), o6] [] σ := fw_on hG [4, 20, 38, 39, 54, 59, 74, 88, 97, 120, 128, 146, 156] 200 h
theorem fs_seOne6_59 {G : fw_K} {R : fw_KR} (hG : fw_cls st_seOne6 R G) {a5 b0 : Int} {o1 o2 o3 o4 o6 : Option ab_AV} {σ : ab_SG} (h : (0 ≤ fw_c b0 ∧ fw_c b0 ≤ 1) ∧ R (some (0, 0, b0)) σ) : G 59 [some (2, 65, 0), o1, o2, o3, o4, some (0, 0, a5), o6] [(0, 0, b0)] σ := fw_on hG [4, 20, 38, 39, 54, 59, 74, 88, 97, 120, 128, 146, 156] 200 h
theorem fs_seOne6_156 {G : fw_K} {R : fw_KR} (hG : fw_cls st_seOne6 R G) {a5 b0 : Int} {o1 o2 o3 o4 o6 : Option ab_AV} {σ : ab_SG} (h : (0 ≤ fw_c b0 ∧ fw_c b0 ≤ 1) ∧ R (some (0, 0, b0)) σ) : G 156 [some (2, 65, 0), o1, o2, o3, o4, some (0, 0, a5), o6] [(0, 0, b0)] σ := fw_on hG [4, 20, 38, 39, 54, 59, 74, 88, 97, 120, 128, 146, 156] 200 h
theorem fs_seOne6_146 {G : fw_K} {R : fw_KR} (hG : fw_cls st_seOne6 R G) {a5 b0 : Int} {o1 o2 o3 o4 o6 : Option ab_AV} {σ : ab_SG} (h : G 156 [some (2, 65, 0), o1, o2, o3, o4, some (0, 0, a5), o6] [(0, 0, b0)] σ) : G 146 [some (2, 65, 0), o1, o2, o3, o4, some (0, 0, a5), o6] [(0, 0, b0)] σ := fw_on hG [4, 20, 38, 39, 54, 59, 74, 88, 97, 120, 128, 146, 156] 200 h
theorem fs_seOne6_120 {G : fw_K} {R : fw_KR} (hG : fw_cls st_seOne6 R G) {a5 b0 : Int} {o1 o2 o3 o4 o6 : Option ab_AV} {σ : ab_SG} (h : sp_seAdd [(2, 65, 0), (0, 0, 0), (0, 0, 0)] σ (fun rv σ2 => G 128 [some (2, 65, 0), o1, o2, o3, o4, some (0, 0, a5), some (0, 0, b0)] (rv.toList ++ []) σ2)) : G 120 [some (2, 65, 0), o1, o2, o3, o4, some (0, 0, a5), o6] [(0, 0, b0)] σ := fw_on hG [4, 20, 38, 39, 54, 59, 74, 88, 97, 120, 128, 146, 156] 200 h
theorem fs_seOne6_88 {G : fw_K} {R : fw_KR} (hG : fw_cls st_seOne6 R G) {a5 b0 : Int} {o2 o3 o4 o6 : Option ab_AV} {σ : ab_SG} (h : (fw_c b0 = 0 → (0 ≤ fw_c 0 ∧ fw_c 0 ≤ 1) ∧ R (some (0, 0, 0)) σ) ∧ (fw_c b0 ≠ 0 → sp_takeSign [(2, 1, 0), (0, 0, 41)] σ (fun rv σ2 => G 97 [some (2, 65, 0), some (2, 1, 0), o2, o3, o4, some (0, 0, a5), o6] (rv.toList ++ []) σ2))) : G 88 [some (2, 65, 0), some (2, 1, 0), o2, o3, o4, some (0, 0, a5), o6] [(0, 0, b0)] σ := fw_on hG [4, 20, 38, 39, 54, 59, 74, 88, 97, 120, 128, 146, 156] 200 h
theorem fs_seOne6_128 {G : fw_K} {R : fw_KR} (hG : fw_cls st_seOne6 R G) {a5 a6 : Int} {o1 o2 o3 o4 : Option ab_AV} {σ : ab_SG} (h : (0 ≤ fw_c a6 ∧ fw_c a6 ≤ 1) ∧ R (some (0, 0, a6)) σ) : G 128 [some (2, 65, 0), o1, o2, o3, o4, some (0, 0, a5), some (0, 0, a6)] [] σ := fw_on hG [4, 20, 38, 39, 54, 59, 74, 88, 97, 120, 128, 146, 156] 200 h
theorem fs_seOne6_97 {G : fw_K} {R : fw_KR} (hG : fw_cls st_seOne6 R G) {a5 b0 : Int} {o1 o2 o3 o4 o6 : Option ab_AV} {σ : ab_SG} (h : (fw_c b0 = 0 → (0 ≤ fw_c 0 ∧ fw_c 0 ≤ 1) ∧ R (some (0, 0, 0)) σ) ∧ (fw_c b0 ≠ 0 → (0 ≤ fw_c 1 ∧ fw_c 1 ≤ 1) ∧ R (some (0, 0, 1)) σ)) : G 97 [some (2, 65, 0), o1, o2, o3, o4, some (0, 0, a5), o6] [(0, 0, b0)] σ := fw_on hG [4, 20, 38, 39, 54, 59, 74, 88, 97, 120, 128, 146, 156] 200 h
abbrev fk_seCond6 : List fw_CR := [(52, 3, true, 5, 17, sp_seOne 6), (61, 1, true, 8, 0, sp_isWord), (68, 2, true, 5, 1, sp_seAdd), (72, 0, true, 8, 2, sp_step)]
abbrev st_seCond6 : fw_K → fw_KR → fw_K := fw_st vwCl nn_sh nn_kd fw_kv fw_wc (nn_KI5.map (fun x => x.1)) (nn_KJ5.map (fun x => x.1)) (nn_PF5.map (fun x => x.1)) (nn_PS5.map (fun x => x.1)) fk_seCond6 18 nn_dt174 8 1
theorem fs_seCond6_0 {G : fw_K} {R : fw_KR} (hG : fw_cls st_seCond6 R G) {d : Int} {σ : ab_SG} (h : sp_seOne 6 [(2, 65, 0), (2, 1, 0), (2, 3, 0), (0, 0, d)] σ (fun rv σ2 => G 7 [some (2, 65, 0), some (2, 1, 0), some (2, 3, 0), some (0, 0, d), none, none, none, none] (rv.toList ++ []) σ2)) : G 0 [some (2, 65, 0), some (2, 1, 0), some (2, 3, 0), some (0, 0, d), none, none, none, none] [] σ := fw_on hG [7, 15, 34, 44, 47, 54, 72, 84, 91, 98, 111, 117, 128] 200 h
theorem fs_seCond6_7 {G : fw_K} {R : fw_KR} (hG : fw_cls st_seCond6 R G) {a3 b0 : Int} {o5 o6 o7 : Option ab_AV} {σ : ab_SG} (h : G 15 [some (2, 65, 0), some (2, 1, 0), some (2, 3, 0), some (0, 0, a3), some (0, 0, b0), some (0, 0, 0), some (0, 0, 0), o7] [] σ) : G 7 [some (2, 65, 0), some (2, 1, 0), some (2, 3, 0), some (0, 0, a3), none, o5, o6, o7] [(0, 0, b0)] σ := fw_on hG [7, 15, 34, 44, 47, 54, 72, 84, 91, 98, 111, 117, 128] 200 h
theorem fs_seCond6_15 {G : fw_K} {R : fw_KR} (hG : fw_cls st_seCond6 R G) {a3 a4 a5 a6 : Int} {o7 : Option ab_AV} {σ : ab_SG} (h : (fw_c 20 ≤ fw_c a6 → G 117 [some (2, 65, 0), some (2, 1, 0), some (2, 3, 0), some (0, 0, a3), some (0, 0, a4), some (0, 0, a5), some (0, 0, a6), o7] [] σ) ∧ (fw_c a6 < fw_c 20 → (fw_c a4 = 0 → G 117 [some (2, 65, 0), some (2, 1, 0), some (2, 3, 0), some (0, 0, a3), some (0, 0, a4), some (0, 0, a5), some (0, 0, a6), o7] [] σ) ∧ (fw_c a4 ≠ 0 → sp_isWord [(2, 1, 0), (4, 0, 8)] σ (fun rv σ2 => G 34 [some (2, 65, 0), some (2, 1, 0), some (2, 3, 0), some (0, 0, a3), some (0, 0, a4), some (0, 0, a5), some (0, 0, a6), o7] (rv.toList ++ []) σ2)))) : G 15 [some (2, 65, 0), some (2, 1, 0), some (2, 3, 0), some (0, 0, a3), some (0, 0, a4), some (0, 0, a5), some (0, 0, a6), o7] [] σ := fw_on hG [7, 15, 34, 44, 47, 54, 72, 84, 91, 98, 111, 117, 128] 200 h
theorem fs_seCond6_117 {G : fw_K} {R : fw_KR} (hG : fw_cls st_seCond6 R G) {a4 a5 : Int} {o1 o2 o3 o6 o7 : Option ab_AV} {σ : ab_SG} (h : (fw_c a5 = 0 → G 128 [some (2, 65, 0), o1, o2, o3, some (0, 0, a4), some (0, 0, a5), o6, o7] [] σ) ∧ (fw_c a5 ≠ 0 → sp_seAdd [(2, 65, 0), (0, 0, 2), (0, 0, 0)] σ (fun rv σ2 => G 128 [some (2, 65, 0), o1, o2, o3, some (0, 0, a4), some (0, 0, a5), o6, o7] (rv.toList ++ []) σ2))) : G 117 [some (2, 65, 0), o1, o2, o3, some (0, 0, a4), some (0, 0, a5), o6, o7] [] σ := fw_on hG [7, 15, 34, 44, 47, 54, 72, 84, 91, 98, 111, 117, 128] 200 h
theorem fs_seCond6_34 {G : fw_K} {R : fw_KR} (hG : fw_cls st_seCond6 R G) {a3 a4 a5 a6 b0 : Int} {o7 : Option ab_AV} {σ : ab_SG} (h : (fw_c b0 ≠ 0 → G 47 [some (2, 65, 0), some (2, 1, 0), some (2, 3, 0), some (0, 0, a3), some (0, 0, a4), some (0, 0, a5), some (0, 0, a6), o7] [] σ) ∧ (fw_c b0 = 0 → sp_isWord [(2, 1, 0), (4, 0, 7)] σ (fun rv σ2 => G 44 [some (2, 65, 0), some (2, 1, 0), some (2, 3, 0), some (0, 0, a3), some (0, 0, a4), some (0, 0, a5), some (0, 0, a6), o7] (rv.toList ++ []) σ2))) : G 34 [some (2, 65, 0), some (2, 1, 0), some (2, 3, 0), some (0, 0, a3), some (0, 0, a4), some (0, 0, a5), some (0, 0, a6), o7] [(0, 0, b0)] σ := fw_on hG [7, 15, 34, 44, 47, 54, 72, 84, 91, 98, 111, 117, 128] 200 h
theorem fs_seCond6_128 {G : fw_K} {R : fw_KR} (hG : fw_cls st_seCond6 R G) {a4 : Int} {o1 o2 o3 o5 o6 o7 : Option ab_AV} {σ : ab_SG} (h : (0 ≤ fw_c a4 ∧ fw_c a4 ≤ 1) ∧ R (some (0, 0, a4)) σ) : G 128 [some (2, 65, 0), o1, o2, o3, some (0, 0, a4), o5, o6, o7] [] σ := fw_on hG [7, 15, 34, 44, 47, 54, 72, 84, 91, 98, 111, 117, 128] 200 h
theorem fs_seCond6_47 {G : fw_K} {R : fw_KR} (hG : fw_cls st_seCond6 R G) {a3 a4 a5 a6 : Int} {o7 : Option ab_AV} {σ : ab_SG} (h : sp_isWord [(2, 1, 0), (4, 0, 8)] σ (fun rv σ2 => G 54 [some (2, 65, 0), some (2, 1, 0), some (2, 3, 0), some (0, 0, a3), some (0, 0, a4), some (0, 0, a5), some (0, 0, a6), o7] (rv.toList ++ []) σ2)) : G 47 [some (2, 65, 0), some (2, 1, 0), some (2, 3, 0), some (0, 0, a3), some (0, 0, a4), some (0, 0, a5), some (0, 0, a6), o7] [] σ := fw_on hG [7, 15, 34, 44, 47, 54, 72, 84, 91, 98, 111, 117, 128] 200 h
theorem fs_seCond6_44 {G : fw_K} {R : fw_KR} (hG : fw_cls st_seCond6 R G) {a3 a4 a5 a6 b0 : Int} {o7 : Option ab_AV} {σ : ab_SG} (h : (fw_c b0 = 0 → G 117 [some (2, 65, 0), some (2, 1, 0), some (2, 3, 0), some (0, 0, a3), some (0, 0, a4), some (0, 0, a5), some (0, 0, a6), o7] [] σ) ∧ (fw_c b0 ≠ 0 → G 47 [some (2, 65, 0), some (2, 1, 0), some (2, 3, 0), some (0, 0, a3), some (0, 0, a4), some (0, 0, a5), some (0, 0, a6), o7] [] σ)) : G 44 [some (2, 65, 0), some (2, 1, 0), some (2, 3, 0), some (0, 0, a3), some (0, 0, a4), some (0, 0, a5), some (0, 0, a6), o7] [(0, 0, b0)] σ := fw_on hG [7, 15, 34, 44, 47, 54, 72, 84, 91, 98, 111, 117, 128] 200 h
theorem fs_seCond6_54 {G : fw_K} {R : fw_KR} (hG : fw_cls st_seCond6 R G) {a3 a4 a5 a6 b0 : Int} {o7 : Option ab_AV} {σ : ab_SG} (h : (fw_c b0 ≠ 0 → G 72 [some (2, 65, 0), some (2, 1, 0), some (2, 3, 0), some (0, 0, a3), some (0, 0, a4), some (0, 0, a5), some (0, 0, a6), some (0, 0, b0)] [] σ) ∧ (fw_c b0 = 0 → (fw_c a5 = 0 → G 72 [some (2, 65, 0), some (2, 1, 0), some (2, 3, 0), some (0, 0, a3), some (0, 0, a4), some (0, 0, a5), some (0, 0, a6), some (0, 0, b0)] [] σ) ∧ (fw_c a5 ≠ 0 → sp_seAdd [(2, 65, 0), (0, 0, 2), (0, 0, 0)] σ (fun rv σ2 => G 72 [some (2, 65, 0), some (2, 1, 0), some (2, 3, 0), some (0, 0, a3), some (0, 0, a4), some (0, 0, a5), some (0, 0, a6), some (0, 0, b0)] (rv.toList ++ []) σ2)))) : G 54 [some (2, 65, 0), some (2, 1, 0), some (2, 3, 0), some (0, 0, a3), some (0, 0, a4), some (0, 0, a5), some (0, 0, a6), o7] [(0, 0, b0)] σ := fw_on hG [7, 15, 34, 44, 47, 54, 72, 84, 91, 98, 111, 117, 128] 200 h
theorem fs_seCond6_72 {G : fw_K} {R : fw_KR} (hG : fw_cls st_seCond6 R G) {a3 a4 a5 a6 a7 : Int} {σ : ab_SG} (h : (fw_c a7 ≠ 0 → G 84 [some (2, 65, 0), some (2, 1, 0), some (2, 3, 0), some (0, 0, a3), some (0, 0, a4), some (0, 0, a5), some (0, 0, a6), some (0, 0, a7)] [(0, 0, 0), (0, 0, a5)] σ) ∧ (fw_c a7 = 0 → G 84 [some (2, 65, 0), some (2, 1, 0), some (2, 3, 0), some (0, 0, a3), some (0, 0, a4), some (0, 0, a5), some (0, 0, a6), some (0, 0, a7)] [(0, 0, 1), (0, 0, a5)] σ)) : G 72 [some (2, 65, 0), some (2, 1, 0), some (2, 3, 0), some (0, 0, a3), some (0, 0, a4), some (0, 0, a5), some (0, 0, a6), some (0, 0, a7)] [] σ := fw_on hG [7, 15, 34, 44, 47, 54, 72, 84, 91, 98, 111, 117, 128] 200 h
theorem fs_seCond6_84 {G : fw_K} {R : fw_KR} (hG : fw_cls st_seCond6 R G) {a3 a4 a6 a7 b0 b1 : Int} {o5 : Option ab_AV} {σ : ab_SG} (h : sp_step [(2, 1, 0)] σ (fun rv σ2 => G 91 [some (2, 65, 0), some (2, 1, 0), some (2, 3, 0), some (0, 0, a3), some (0, 0, a4), some (0, 0, fw_op 9 b1 b0), some (0, 0, a6), some (0, 0, a7)] (rv.toList ++ []) σ2)) : G 84 [some (2, 65, 0), some (2, 1, 0), some (2, 3, 0), some (0, 0, a3), some (0, 0, a4), o5, some (0, 0, a6), some (0, 0, a7)] [(0, 0, b0), (0, 0, b1)] σ := fw_on hG [7, 15, 34, 44, 47, 54, 72, 84, 91, 98, 111, 117, 128] 200 h
theorem fs_seCond6_91 {G : fw_K} {R : fw_KR} (hG : fw_cls st_seCond6 R G) {a3 a4 a5 a6 a7 : Int} {σ : ab_SG} (h : sp_seOne 6 [(2, 65, 0), (2, 1, 0), (2, 3, 0), (0, 0, a3)] σ (fun rv σ2 => G 98 [some (2, 65, 0), some (2, 1, 0), some (2, 3, 0), some (0, 0, a3), some (0, 0, a4), some (0, 0, a5), some (0, 0, a6), some (0, 0, a7)] (rv.toList ++ []) σ2)) : G 91 [some (2, 65, 0), some (2, 1, 0), some (2, 3, 0), some (0, 0, a3), some (0, 0, a4), some (0, 0, a5), some (0, 0, a6), some (0, 0, a7)] [] σ := fw_on hG [7, 15, 34, 44, 47, 54, 72, 84, 91, 98, 111, 117, 128] 200 h
theorem fs_seCond6_98 {G : fw_K} {R : fw_KR} (hG : fw_cls st_seCond6 R G) {a3 a4 a5 a6 a7 b0 : Int} {σ : ab_SG} (h : (fw_c a7 = 0 → G 111 [some (2, 65, 0), some (2, 1, 0), some (2, 3, 0), some (0, 0, a3), some (0, 0, b0), some (0, 0, a5), some (0, 0, a6), some (0, 0, a7)] [] σ) ∧ (fw_c a7 ≠ 0 → sp_seAdd [(2, 65, 0), (0, 0, 1), (0, 0, 0)] σ (fun rv σ2 => G 111 [some (2, 65, 0), some (2, 1, 0), some (2, 3, 0), some (0, 0, a3), some (0, 0, b0), some (0, 0, a5), some (0, 0, a6), some (0, 0, a7)] (rv.toList ++ []) σ2))) : G 98 [some (2, 65, 0), some (2, 1, 0), some (2, 3, 0), some (0, 0, a3), some (0, 0, a4), some (0, 0, a5), some (0, 0, a6), some (0, 0, a7)] [(0, 0, b0)] σ := fw_on hG [7, 15, 34, 44, 47, 54, 72, 84, 91, 98, 111, 117, 128] 200 h
theorem fs_seCond6_111 {G : fw_K} {R : fw_KR} (hG : fw_cls st_seCond6 R G) {a3 a4 a5 a6 : Int} {o7 : Option ab_AV} {σ : ab_SG} (h : G 15 [some (2, 65, 0), some (2, 1, 0), some (2, 3, 0), some (0, 0, a3), some (0, 0, a4), some (0, 0, a5), some (0, 0, a6 + 1), o7] [] σ) : G 111 [some (2, 65, 0), some (2, 1, 0), some (2, 3, 0), some (0, 0, a3), some (0, 0, a4), some (0, 0, a5), some (0, 0, a6), o7] [] σ := fw_on hG [7, 15, 34, 44, 47, 54, 72, 84, 91, 98, 111, 117, 128] 200 h
section
variable {l : Launch} {cy : Nat → ClassId} {ad wr cr : Nat → Nat} {D : va_G}
theorem fm_seOne6 (hinj : nn_inj ad) : fw_H l cy ad wr cr D 175 17 (sp_seOne 6) := fw_mk hinj (⟨"NameNotes$Sentence", "readOne", "(LNameNotes$Tape;LNameNotes$Studio;I)Z"⟩, prog_7_method_6_code, 7, (Option.some Jvm.ClassFile.FieldType.boolean), 3, true, 1) rfl rfl nn_KI5_ok nn_KJ5_ok nn_PF5_ok nn_PS5_ok (by decide +kernel) rfl rfl (List.forall_mem_cons.mpr ⟨fw_row nn_PM5_ok (x := 41) (k := 0) (mn := 174) (np := 3) (ob := true) (ci := 5) (⟨"NameNotes$Sentence", "readCond", "(LNameNotes$Tape;LNameNotes$Studio;I)Z"⟩, prog_7_method_5_code, 8, (Option.some Jvm.ClassFile.FieldType.boolean), 3, true, 1) rfl (by decide +kernel) rfl rfl (by decide) (fun _ => ⟨_, _, rfl⟩) (fm_seCond5 hinj), (List.forall_mem_cons.mpr ⟨fw_row nn_PM5_ok (x := 48) (k := 0) (mn := 22) (np := 1) (ob := true) (ci := 8) (⟨"NameNotes$Tape", "refuse", "(I)Z"⟩, prog_10_method_14_code, 2, (Option.some Jvm.ClassFile.FieldType.boolean), 1, true, 1) rfl (by decide +kernel) rfl rfl (by decide) (fun _ => ⟨_, _, rfl⟩) (fm_refuse hinj), (List.forall_mem_cons.mpr ⟨fw_row nn_PM5_ok (x := 52) (k := 0) (mn := 175) (np := 3) (ob := true) (ci := 5) (⟨"NameNotes$Sentence", "readOne", "(LNameNotes$Tape;LNameNotes$Studio;I)Z"⟩, prog_7_method_6_code, 7, (Option.some Jvm.ClassFile.FieldType.boolean), 3, true, 1) rfl (by decide +kernel) rfl rfl (by decide) (fun _ => ⟨_, _, rfl⟩) (fm_seOne5 hinj), (List.forall_mem_cons.mpr ⟨fw_row nn_PM5_ok (x := 68) (k := 0) (mn := 177) (np := 2) (ob := true) (ci := 5) (⟨"NameNotes$Sentence", "addStep", "(II)V"⟩, prog_7_method_10_code, 3, (Option.none : Option Jvm.ClassFile.FieldType), 2, true, 4) rfl (by decide +kernel) rfl rfl (by decide) (fun _ => ⟨_, _, rfl⟩) (fm_seAdd hinj), (List.forall_mem_cons.mpr ⟨fw_row nn_PM5_ok (x := 72) (k := 0) (mn := 10) (np := 0) (ob := true) (ci := 8) (⟨"NameNotes$Tape", "step", "()V"⟩, prog_10_method_5_code, 2, (Option.none : Option Jvm.ClassFile.FieldType), 0, true, 4) rfl (by decide +kernel) rfl rfl (by decide) (fun _ => ⟨_, _, rfl⟩) (fm_step hinj), (List.forall_mem_cons.mpr ⟨fw_row nn_PM5_ok (x := 75) (k := 0) (mn := 176) (np := 1) (ob := false) (ci := 0) (⟨"NameNotes$Sentence", "kindOf", "(LNameNotes$Tape;)I"⟩, prog_7_method_9_code, 1, (Option.some Jvm.ClassFile.FieldType.int), 1, false, 0) rfl (by decide +kernel) rfl rfl (by decide) (fun q => by cases q) (fm_seKind hinj), (List.forall_mem_cons.mpr ⟨fw_row nn_PM5_ok (x := 79) (k := 0) (mn := 40) (np := 1) (ob := true) (ci := 8) (⟨"NameNotes$Tape", "takeSign", "(I)Z"⟩, prog_10_method_13_code, 2, (Option.some Jvm.ClassFile.FieldType.boolean), 1, true, 1) rfl (by decide +kernel) rfl rfl (by decide) (fun _ => ⟨_, _, rfl⟩) (fm_takeSign hinj), (List.forall_mem_cons.mpr ⟨fw_row nn_PM5_ok (x := 82) (k := 0) (mn := 178) (np := 3) (ob := true) (ci := 5) (⟨"NameNotes$Sentence", "readNamed", "(LNameNotes$Tape;LNameNotes$Studio;I)Z"⟩, prog_7_method_7_code, 5, (Option.some Jvm.ClassFile.FieldType.boolean), 3, true, 1) rfl (by decide +kernel) rfl rfl (by decide) (fun _ => ⟨_, _, rfl⟩) (fm_seNamed hinj), (List.forall_mem_cons.mpr ⟨fw_row nn_PM5_ok (x := 85) (k := 0) (mn := 179) (np := 2) (ob := true) (ci := 5) (⟨"NameNotes$Sentence", "readMeasured", "(LNameNotes$Tape;I)Z"⟩, prog_7_method_8_code, 4, (Option.some Jvm.ClassFile.FieldType.boolean), 2, true, 1) rfl (by decide +kernel) rfl rfl (by decide) (fun _ => ⟨_, _, rfl⟩) (fm_seMeas hinj), (fun _ h => absurd h List.not_mem_nil)⟩)⟩)⟩)⟩)⟩)⟩)⟩)⟩)⟩) (fun as σ K h => by
  obtain ⟨A, e, p, o, rfl, hN, E, ⟨h4, ho⟩, h⟩ := h
  have tk1 := (tk_can e p).1
  have m1 : fw_c (-1) = -1 := fw_s (by decide) (by decide)
  have c40 : fw_c 40 = 40 := fw_s (by decide) (by decide)
  have c20 : fw_c 20 = 20 := fw_s (by decide) (by decide)
  have c8 : fw_c 8 = 8 := fw_s (by decide) (by decide)
  have c6 : fw_c 6 = 6 := fw_s (by decide) (by decide)
  have cd : fw_c (9 - ((6 : Nat) : Int)) = 9 - ((6 : Nat) : Int) := fw_s (by decide) (by decide)
  have c4 : fw_c (σ 65 4) = (o : Int) := by rw [h4]; exact fw_s (by omega) (by omega)
  have sv := sk_in e p
  have csk : fw_c (sk_v e p) = sk_v e p := fw_s (by omega) (by omega)
  have n40 : (tk e p).1 = 40 → ¬ (9 ≤ tw e p ∧ tw e p ≤ 16) := fun z y => by
    have := tw_k (e := e) (p := p) (by omega)
    omega
  refine ⟨rfl, fun G hG => fs_seOne6_0 hG ⟨e, p, rfl, E, fs_seOne6_4 hG ?_⟩⟩
  rw [E.kind.2, c40]
  have four : sn_st e p → sn_one A e 6 o p = (4, ev_st e p, o, p) → ∀ a5 : Int, G 54 [some (2, 65, 0), some (2, 1, 0), some (2, 3, 0), some (0, 0, 9 - ((6 : Nat) : Int)), some (0, 0, sk_v e p), some (0, 0, a5), none] [] σ := fun y en a5 => by
    rw [en] at h
    exact fs_seOne6_54 hG ⟨4, rfl, E.rf (x := 4) (v := 0) (K := fun rv σ2 => G 59 [some (2, 65, 0), some (2, 1, 0), some (2, 3, 0), some (0, 0, 9 - ((6 : Nat) : Int)), some (0, 0, sk_v e p), some (0, 0, a5), none] (rv.toList ++ []) σ2) (by decide) (fun σ' a b c => fs_seOne6_59 hG ⟨fw_01, h.1 (show (4 : Int) ≠ 0 by decide) σ' (ev_up a (by decide)) b c⟩)⟩
  have go : sn_st e p → ∀ a5 : Int, ((a5 = 1 ∧ (tk e p).1 = 40) ∨ (a5 = 0 ∧ (tk e p).1 ≠ 40)) → G 39 [some (2, 65, 0), some (2, 1, 0), some (2, 3, 0), some (0, 0, 9 - ((6 : Nat) : Int)), some (0, 0, sk_v e p), some (0, 0, a5), none] [] σ := by
    intro y a5 h5
    refine fs_seOne6_39 hG ?_
    rw [c4, c20, c8, cd, h4]
    refine ⟨fun z => four y ?_ a5, fun z => ⟨fun _ => ⟨rfl, ?_⟩, fun z => absurd z (by decide)⟩⟩
    · rw [show sn_one A e 6 o p = _ from sn_one_s A e 5 o p, if_neg (fun w => w y), if_pos (by omega)]
    have en : sn_one A e 6 o p = _ := sn_one_s A e 5 o p
    rw [if_neg (fun w => w y), if_neg (by omega)] at en
    have ln : sl_one A e 6 o p = _ := sl_one_s A e 5 o p
    have co : fw_c ((o : Int) + 1) = ((o + 1 : Nat) : Int) := fw_s (by omega) (by omega)
    rw [co]
    have E1 : eD (ab_ups σ 65 4 ((o + 1 : Nat) : Int)) e p := E.M (M := [(65, 4)]) okM_one (by decide) (by decide)
    have M1 : ab_okM sN_M σ (ab_ups σ 65 4 ((o + 1 : Nat) : Int)) := fw_okM_ups (fw_okM_refl _ _) (by decide)
    have Q1 : ab_okM [(65, 4)] σ (ab_ups σ 65 4 ((o + 1 : Nat) : Int)) := okM_one
    have f1 : (ab_ups σ 65 4 ((o + 1 : Nat) : Int)) 65 4 = ((o + 1 : Nat) : Int) := ab_ups_eq
    generalize ab_ups σ 65 4 ((o + 1 : Nat) : Int) = σ1 at E1 M1 Q1 f1 ⊢
    refine ⟨E1.st.1, fun σ2 N2 S2 => fs_seOne6_74 hG ?_⟩
    have E2 := E1.st.2 σ2 N2 S2
    have M2 : ab_okM sN_M σ σ2 := ev_tr M1 (ev_up N2 (by decide))
    have p2 : pk σ σ2 [] := pk_l (pk_k (M := [(65, 4)]) Q1 (by decide)) (pk_k N2 (by decide))
    have f2 : σ2 65 4 = ((o + 1 : Nat) : Int) := (mk_row N2 (k := 65) (by decide) 4).trans f1
    have N2' : NC σ2 A := ev_NC M2 (by decide +kernel) hN
    rw [csk, c6]
    -- what comes back is told on
    have p156 : ∀ (r : sn_T) (L : sl_T), sn_one A e 6 o p = r → sl_one A e 6 o p = L → sl_post σ2 r L e (fun rv σ3 => G 156 [some (2, 65, 0), some (2, 1, 0), some (2, 3, 0), some (0, 0, 9 - ((6 : Nat) : Int)), some (0, 0, sk_v e p), some (0, 0, a5), none] (rv.toList ++ []) σ3) := by
      intro r L er el
      rw [er, el] at h
      exact ⟨fun q σ' M a b => fs_seOne6_156 hG ⟨fw_01, h.1 q σ' (ev_tr M2 M) a b⟩, fun q σ' M a b c => fs_seOne6_156 hG ⟨fw_11, h.2 q σ' (ev_tr M2 M) a b (pk_l p2 c)⟩⟩
    refine ⟨fun z5 => ?_, fun z5 => ?_⟩
    · have n4 : (tk e p).1 ≠ 40 := by
        rcases h5 with ⟨q, -⟩ | ⟨-, q⟩
        · rw [q] at z5
          exact absurd (fw_c1.symm.trans z5) (by decide)
        · exact q
      have y2 : 9 ≤ tw e p ∧ tw e p ≤ 16 := y.resolve_left n4
      rw [if_neg n4] at en ln
      refine ⟨fun z6 => ⟨fun z7 => ?_, fun z7 => ?_⟩, fun z6 => ?_⟩
      · rw [if_neg (by omega), if_neg (by omega), if_neg (by omega), if_neg (by omega)] at en ln
        exact ⟨e, tn e p, o + 1, _, rfl, ⟨by omega, by omega⟩, E2, f2, p156 _ _ en ln⟩
      · rw [if_neg (by omega)] at en ln
        have nmd : ∀ (r : sn_T) (L : sl_T), sn_one A e 6 o p = r → sl_one A e 6 o p = L → sl_post σ2 r L e (fun rv σ3 => G 146 [some (2, 65, 0), some (2, 1, 0), some (2, 3, 0), some (0, 0, 9 - ((6 : Nat) : Int)), some (0, 0, sk_v e p), some (0, 0, a5), none] (rv.toList ++ []) σ3) := fun r L er el => ⟨fun q σ' M a b => fs_seOne6_146 hG ((p156 r L er el).1 q σ' M a b), fun q σ' M a b c => fs_seOne6_146 hG ((p156 r L er el).2 q σ' M a b c)⟩
        refine ⟨A, e, tn e p, o + 1, _, rfl, N2', E2, f2, ?_⟩
        by_cases w1 : tw e p = 10
        · rw [if_pos w1] at en ln
          exact Or.inl ⟨by omega, nmd _ _ en ln⟩
        rw [if_neg w1] at en ln
        by_cases w2 : tw e p = 11
        · rw [if_pos w2] at en ln
          exact Or.inr (Or.inl ⟨by omega, nmd _ _ en ln⟩)
        rw [if_neg w2, if_pos (by omega)] at en ln
        exact Or.inr (Or.inr ⟨by omega, nmd _ _ en ln⟩)
      · rw [if_pos (by omega)] at en ln
        rw [en, ln] at h
        refine ⟨A, e, tn e p, o + 1, rfl, N2', E2, ⟨f2, by omega⟩, fun q σ' M a b => fs_seOne6_120 hG ⟨0, 0, rfl, fun σ4 M4 _ => fs_seOne6_128 hG ⟨fw_01, h.1 q σ4 (ev_tr (ev_tr M2 M) (ev_up M4 (by decide))) ((mk_row M4 (k := 1) (by decide) 9).trans a) ((mk_row M4 (k := 1) (by decide) 10).trans b)⟩⟩, fun q σ' M a b c => fs_seOne6_120 hG ⟨0, 0, rfl, fun σ4 M4 P4 => fs_seOne6_128 hG ⟨fw_11, h.2 q σ4 (ev_tr (ev_tr M2 M) (ev_up M4 (by decide))) (a.M M4 (by decide) (by decide)) ((mk_at M4 (k := 65) (j := 4) (by decide)).trans b) (pk_tr (pk_l p2 c) (P4 fw_c0 fw_c0))⟩⟩⟩
    · have n4 : (tk e p).1 = 40 := by
        rcases h5 with ⟨-, q⟩ | ⟨q, -⟩
        · exact q
        · rw [q] at z5
          exact absurd fw_c0 z5
      rw [if_pos n4] at en ln
      generalize hr : sn_cd (sn_one A e 5) e (o + 1) (tn e p) = r at en
      rw [en, ln] at h
      refine ⟨A, e, tn e p, o + 1, rfl, N2', E2, ⟨f2, by omega⟩, ?_⟩
      rw [hr]
      refine ⟨fun q σ' M a b => ?_, fun q σ' M E3 f3 p3 => ?_⟩
      · rw [show sn_br e r = r from if_pos q] at h
        exact fs_seOne6_88 hG ⟨fun _ => ⟨fw_01, h.1 q σ' (ev_tr M2 M) a b⟩, fun z => absurd fw_c0 z⟩
      · have M3 : ab_okM sN_M σ σ' := ev_tr M2 M
        refine fs_seOne6_88 hG ⟨fun z => absurd (fw_c1.symm.trans z) (by decide), fun _ => E3.sg (by decide) (fun w σ4 a b c => ?_) (fun w σ4 M4 E4 => ?_)⟩
        · have eb : sn_br e r = (1, ev_st e r.2.2.2, r.2.2.1, r.2.2.2) := (if_neg (fun z => z q)).trans (if_pos w)
          rw [eb] at h
          exact fs_seOne6_97 hG ⟨fun _ => ⟨fw_01, h.1 (show (1 : Int) ≠ 0 by decide) σ4 (ev_tr M3 (ev_up a (by decide))) b c⟩, fun z => absurd fw_c0 z⟩
        · have eb : sn_br e r = (0, 0, r.2.2.1, tn e r.2.2.2) := (if_neg (fun z => z q)).trans (if_neg (fun z => z w))
          rw [eb] at h
          exact fs_seOne6_97 hG ⟨fun z => absurd (fw_c1.symm.trans z) (by decide), fun _ => ⟨fw_11, h.2 rfl σ4 (ev_tr M3 (ev_up M4 (by decide))) E4 ((mk_row M4 (k := 65) (by decide) 4).trans f3) (pk_l p2 (pk_r p3 (pk_k M4 (by decide))))⟩⟩
  have no : ¬ sn_st e p → G 20 [some (2, 65, 0), some (2, 1, 0), some (2, 3, 0), some (0, 0, 9 - ((6 : Nat) : Int)), some (0, 0, sk_v e p), none, none] [(0, 0, 0)] σ := fun y => by
    have en : sn_one A e 6 o p = (1, ev_st e p, o, p) := (sn_one_s A e 5 o p).trans (if_pos y)
    rw [en] at h
    have ek : sk_v e p = -1 := by
      have : ¬ (9 ≤ tw e p ∧ tw e p ≤ 16) := fun z => y (Or.inr z)
      omega
    refine fs_seOne6_20 hG ⟨fun z => absurd (by rw [ek]) z, fun _ => ⟨fun z => absurd fw_c0 z, fun _ => ⟨1, rfl, E.rf (x := 1) (v := 0) (K := fun rv σ2 => G 38 [some (2, 65, 0), some (2, 1, 0), some (2, 3, 0), some (0, 0, 9 - ((6 : Nat) : Int)), some (0, 0, sk_v e p), some (0, 0, 0), none] (rv.toList ++ []) σ2) (by decide) (fun σ' a b c => fs_seOne6_38 hG ⟨fw_01, h.1 (show (1 : Int) ≠ 0 by decide) σ' (ev_up a (by decide)) b c⟩)⟩⟩⟩
  refine ⟨fun z => ?_, fun z => ?_⟩
  · by_cases y : sn_st e p
    · have y2 : 9 ≤ tw e p ∧ tw e p ≤ 16 := y.resolve_left z
      exact fs_seOne6_20 hG ⟨fun _ => go y 0 (Or.inr ⟨rfl, z⟩), fun u => absurd u (by rw [csk, m1]; omega)⟩
    · exact no y
  · have y : sn_st e p := Or.inl z
    have ek : sk_v e p = -1 := by
      have := n40 z
      omega
    exact fs_seOne6_20 hG ⟨fun u => absurd (by rw [ek]) u, fun _ => ⟨fun _ => go y 1 (Or.inl ⟨rfl, z⟩), fun u => absurd (fw_c1.symm.trans u) (by decide)⟩⟩)
theorem fm_seCond6 (hinj : nn_inj ad) : fw_H l cy ad wr cr D 174 18 (sp_seCond 6) := fw_mk hinj (⟨"NameNotes$Sentence", "readCond", "(LNameNotes$Tape;LNameNotes$Studio;I)Z"⟩, prog_7_method_5_code, 8, (Option.some Jvm.ClassFile.FieldType.boolean), 3, true, 1) rfl rfl nn_KI5_ok nn_KJ5_ok nn_PF5_ok nn_PS5_ok (by decide +kernel) rfl rfl (List.forall_mem_cons.mpr ⟨fw_row nn_PM5_ok (x := 52) (k := 0) (mn := 175) (np := 3) (ob := true) (ci := 5) (⟨"NameNotes$Sentence", "readOne", "(LNameNotes$Tape;LNameNotes$Studio;I)Z"⟩, prog_7_method_6_code, 7, (Option.some Jvm.ClassFile.FieldType.boolean), 3, true, 1) rfl (by decide +kernel) rfl rfl (by decide) (fun _ => ⟨_, _, rfl⟩) (fm_seOne6 hinj), (List.forall_mem_cons.mpr ⟨fw_row nn_PM5_ok (x := 61) (k := 0) (mn := 20) (np := 1) (ob := true) (ci := 8) (⟨"NameNotes$Tape", "isWord", "(LNameNotes$Word;)Z"⟩, prog_10_method_10_code, 2, (Option.some Jvm.ClassFile.FieldType.boolean), 1, true, 1) rfl (by decide +kernel) rfl rfl (by decide) (fun _ => ⟨_, _, rfl⟩) (fm_isWord hinj), (List.forall_mem_cons.mpr ⟨fw_row nn_PM5_ok (x := 68) (k := 0) (mn := 177) (np := 2) (ob := true) (ci := 5) (⟨"NameNotes$Sentence", "addStep", "(II)V"⟩, prog_7_method_10_code, 3, (Option.none : Option Jvm.ClassFile.FieldType), 2, true, 4) rfl (by decide +kernel) rfl rfl (by decide) (fun _ => ⟨_, _, rfl⟩) (fm_seAdd hinj), (List.forall_mem_cons.mpr ⟨fw_row nn_PM5_ok (x := 72) (k := 0) (mn := 10) (np := 0) (ob := true) (ci := 8) (⟨"NameNotes$Tape", "step", "()V"⟩, prog_10_method_5_code, 2, (Option.none : Option Jvm.ClassFile.FieldType), 0, true, 4) rfl (by decide +kernel) rfl rfl (by decide) (fun _ => ⟨_, _, rfl⟩) (fm_step hinj), (fun _ h => absurd h List.not_mem_nil)⟩)⟩)⟩)⟩) (fun as σ K h => by
  obtain ⟨A, e, p, o, rfl, hN, E, ⟨h4, ho⟩, h⟩ := h
  have c20 : fw_c 20 = 20 := fw_s (by decide) (by decide)
  have c2 : fw_c 2 = 2 := fw_s (by decide) (by decide)
  have og := sn_one_gr A e 6
  refine ⟨rfl, fun G hG => ?_⟩
  have ex0 : ∀ (τ : ab_SG) (a5 a6 : Int) (o7 : Option ab_AV), (∀ τ' : ab_SG, ab_okM se_M τ τ' → K (some (0, 0, 0)) τ') → G 15 [some (2, 65, 0), some (2, 1, 0), some (2, 3, 0), some (0, 0, 9 - ((6 : Nat) : Int)), some (0, 0, 0), some (0, 0, a5), some (0, 0, a6), o7] [] τ := by
    intro τ a5 a6 o7 k
    have g : G 117 [some (2, 65, 0), some (2, 1, 0), some (2, 3, 0), some (0, 0, 9 - ((6 : Nat) : Int)), some (0, 0, 0), some (0, 0, a5), some (0, 0, a6), o7] [] τ := fs_seCond6_117 hG ⟨fun _ => fs_seCond6_128 hG ⟨fw_01, k τ (fw_okM_refl _ _)⟩, fun _ => ⟨_, _, rfl, fun τ' M _ => fs_seCond6_128 hG ⟨fw_01, k τ' M⟩⟩⟩
    exact fs_seCond6_15 hG ⟨fun _ => g, fun _ => ⟨fun _ => g, fun z => absurd fw_c0 z⟩⟩
  have ex1 : ∀ (τ : ab_SG) (w : Bool) (a6 : Int) (o7 : Option ab_AV), (∀ τ' : ab_SG, ab_okM se_M τ τ' → pk τ τ' (fl w) → K (some (0, 0, 1)) τ') → G 117 [some (2, 65, 0), some (2, 1, 0), some (2, 3, 0), some (0, 0, 9 - ((6 : Nat) : Int)), some (0, 0, 1), some (0, 0, bI w), some (0, 0, a6), o7] [] τ := fun τ w a6 o7 k =>
    fs_seCond6_117 hG ⟨fun z => fs_seCond6_128 hG ⟨fw_11, k τ (fw_okM_refl _ _) (by rw [bI_0 z]; exact pk_0 τ)⟩, fun z => ⟨_, _, rfl, fun τ' M P => fs_seCond6_128 hG ⟨fw_11, k τ' M (by rw [bI_1 z]; exact P c2 fw_c0)⟩⟩⟩
  have add : ∀ {τ τ' : ab_SG}, ab_okM se_M τ τ' → ab_okM sN_M τ τ' := fun M => ev_up M (by decide)
  have loop : ∀ (g i o1 p1 : Nat) (τ : ab_SG) (w : Bool) (L1 : sl_T) (o7 : Option ab_AV), i + g = 20 → i + 1 ≤ o1 → o1 ≤ 20 → ab_okM sN_M σ τ → eD τ e p1 → τ 65 4 = (o1 : Int) → pk σ τ L1 → sn_cd (sn_one A e 6) e o p = sn_lp (sn_one A e 6) e g o1 p1 → sl_cd (sn_one A e 6) (sl_one A e 6) e o p = L1 ++ sl_lp (sn_one A e 6) (sl_one A e 6) e g w o1 p1 → G 15 [some (2, 65, 0), some (2, 1, 0), some (2, 3, 0), some (0, 0, 9 - ((6 : Nat) : Int)), some (0, 0, 1), some (0, 0, bI w), some (0, 0, (i : Int)), o7] [] τ := by
    intro g
    induction g with
    | zero =>
      intro i o1 p1 τ w L1 o7 hi h1 h2 _ _ _ _ _ _
      omega
    | succ g ih =>
      intro i o1 p1 τ w L1 o7 hi h1 h2 M E1 f1 hp hr hL
      have ci : fw_c (i : Int) = (i : Int) := fw_s (by omega) (by omega)
      rw [sn_lps] at hr
      rw [sl_lps] at hL
      have iw : ∀ (τ1 : ab_SG) (x : Int) (Q : fw_KR), eD τ1 e p1 → 0 ≤ x → x ≤ 16 → (tw e p1 = x → Q (some (0, 0, 1)) τ1) → (tw e p1 ≠ x → Q (some (0, 0, 0)) τ1) → sp_isWord [(2, 1, 0), (4, 0, x)] τ1 Q := by
        intro τ1 x Q E2 h1 h2 a b
        have kw := E2.kw
        refine ⟨x, rfl, ⟨kw.2.1, kw.2.2, by omega, h2⟩, ?_⟩
        by_cases c : tw e p1 = x
        · rw [fw_bo_t ((E2.isw h1).mpr c)]
          exact a c
        · rw [fw_bo_f (fun z => c ((E2.isw h1).mp z))]
          exact b c
      have u0 : ∀ {X : Prop}, fw_c 0 ≠ 0 → X := fun z => absurd fw_c0 z
      have u1 : ∀ {X : Prop}, fw_c 1 = 0 → X := fun z => absurd (fw_c1.symm.trans z) (by decide)
      have n1 : fw_c 1 ≠ 0 := fun z => u1 z
      have stop : ¬ (tw e p1 = 8 ∨ tw e p1 = 7) → G 117 [some (2, 65, 0), some (2, 1, 0), some (2, 3, 0), some (0, 0, 9 - ((6 : Nat) : Int)), some (0, 0, 1), some (0, 0, bI w), some (0, 0, (i : Int)), o7] [] τ := fun c => by
        rw [if_neg c] at hr
        rw [if_neg (fun z => c (Or.inl z)), if_neg (fun z => c (Or.inr z))] at hL
        rw [hr, hL] at h
        exact ex1 τ w _ o7 (fun τ' M' P' => h.2 rfl τ' (ev_tr M (add M')) (E1.M M' (by decide) (by decide)) ((mk_at M' (k := 65) (j := 4) (by decide)).trans f1) (pk_tr hp P'))
      have g84 : (tw e p1 = 8 ∨ tw e p1 = 7) → ∀ (τ1 : ab_SG) (a7 b0 : Int) (w2 : Bool) (L2 T : sl_T), fw_op 9 (bI w) b0 = bI w2 → ab_okM sN_M σ τ1 → eD τ1 e p1 → τ1 65 4 = (o1 : Int) → pk σ τ1 L2 → ((fw_c a7 = 0 ∧ T = []) ∨ (fw_c a7 ≠ 0 ∧ T = [(1, 0)])) → sl_cd (sn_one A e 6) (sl_one A e 6) e o p = L2 ++ (sl_one A e 6 o1 (tn e p1) ++ (T ++ sl_lp (sn_one A e 6) (sl_one A e 6) e g w2 (sn_one A e 6 o1 (tn e p1)).2.2.1 (sn_one A e 6 o1 (tn e p1)).2.2.2)) → G 84 [some (2, 65, 0), some (2, 1, 0), some (2, 3, 0), some (0, 0, 9 - ((6 : Nat) : Int)), some (0, 0, 1), some (0, 0, bI w), some (0, 0, (i : Int)), some (0, 0, a7)] [(0, 0, b0), (0, 0, bI w)] τ1 := by
        intro c τ1 a7 b0 w2 L2 T hb M1 E2 f2 hp2 hT hL2
        refine fs_seCond6_84 hG ⟨rfl, E2.st.1, fun τ2 N2 S2 => fs_seCond6_91 hG ?_⟩
        rw [hb]
        have E3 := E2.st.2 τ2 N2 S2
        have M2 : ab_okM sN_M σ τ2 := ev_tr M1 (ev_up N2 (by decide))
        have p2 : pk σ τ2 L2 := pk_r hp2 (pk_k N2 (by decide))
        rw [if_pos c] at hr
        refine ⟨A, e, tn e p1, o1, rfl, ev_NC M2 (by decide +kernel) hN, E3, ⟨(mk_row N2 (k := 65) (by decide) 4).trans f2, h2⟩, fun q σ' M3 a b => ?_, fun q σ' M3 E4 f4 p4 => ?_⟩
        · rw [if_pos q] at hr
          rw [hr] at h
          have k : ∀ τ' : ab_SG, ab_okM se_M σ' τ' → K (some (0, 0, 0)) τ' := fun τ' M' => h.1 q τ' (ev_tr (ev_tr M2 M3) (add M')) ((mk_row M' (k := 1) (by decide) 9).trans a) ((mk_row M' (k := 1) (by decide) 10).trans b)
          exact fs_seCond6_98 hG ⟨fun _ => fs_seCond6_111 hG (ex0 σ' _ _ _ k), fun _ => ⟨_, _, rfl, fun τ' M' _ => fs_seCond6_111 hG (ex0 τ' _ _ _ (fun τ'' M'' => k τ'' (ev_tr M' M'')))⟩⟩
        · rw [if_neg (fun z => z q)] at hr
          have gr := og o1 (tn e p1) h2 q
          have p5 : pk σ σ' (L2 ++ sl_one A e 6 o1 (tn e p1)) := pk_tr p2 p4
          have nx : ∀ τ' : ab_SG, ab_okM sN_M σ τ' → eD τ' e (sn_one A e 6 o1 (tn e p1)).2.2.2 → τ' 65 4 = ((sn_one A e 6 o1 (tn e p1)).2.2.1 : Int) → pk σ τ' (L2 ++ sl_one A e 6 o1 (tn e p1) ++ T) → G 111 [some (2, 65, 0), some (2, 1, 0), some (2, 3, 0), some (0, 0, 9 - ((6 : Nat) : Int)), some (0, 0, 1), some (0, 0, bI w2), some (0, 0, (i : Int)), some (0, 0, a7)] [] τ' := fun τ' M' E' f' p' => fs_seCond6_111 hG (by
            have g := ih (i + 1) _ _ τ' w2 _ (some (0, 0, a7)) (by omega) (by omega) gr.2 M' E' f' p' hr (by rw [hL2, List.append_assoc, List.append_assoc])
            rw [show ((i + 1 : Nat) : Int) = (i : Int) + 1 from rfl] at g
            exact g)
          rcases hT with ⟨z, eT⟩ | ⟨z, eT⟩
          · exact fs_seCond6_98 hG ⟨fun _ => nx σ' (ev_tr M2 M3) E4 f4 (by rw [eT, List.append_nil]; exact p5), fun y => absurd z y⟩
          · exact fs_seCond6_98 hG ⟨fun y => absurd y z, fun _ => ⟨_, _, rfl, fun τ' M' P' => nx τ' (ev_tr (ev_tr M2 M3) (add M')) (E4.M M' (by decide) (by decide)) ((mk_at M' (k := 65) (j := 4) (by decide)).trans f4) (by rw [eT]; exact pk_tr p5 (P' fw_c1 fw_c0))⟩⟩
      -- AND
      have ga : tw e p1 = 8 → G 47 [some (2, 65, 0), some (2, 1, 0), some (2, 3, 0), some (0, 0, 9 - ((6 : Nat) : Int)), some (0, 0, 1), some (0, 0, bI w), some (0, 0, (i : Int)), o7] [] τ := fun c8 => by
        rw [if_pos c8] at hL
        exact fs_seCond6_47 hG (iw τ 8 _ E1 (by decide) (by decide) (fun _ => fs_seCond6_54 hG ⟨fun _ => fs_seCond6_72 hG ⟨fun _ => g84 (Or.inl c8) τ 1 0 w L1 [(1, 0)] (bI_a w) M E1 f1 hp (Or.inr ⟨n1, rfl⟩) hL, u1⟩, u1⟩) (fun z => absurd c8 z))
      -- OR
      have gb : tw e p1 ≠ 8 → tw e p1 = 7 → ∀ τ1 : ab_SG, ab_okM sN_M σ τ1 → eD τ1 e p1 → τ1 65 4 = (o1 : Int) → pk σ τ1 (L1 ++ fl w) → G 72 [some (2, 65, 0), some (2, 1, 0), some (2, 3, 0), some (0, 0, 9 - ((6 : Nat) : Int)), some (0, 0, 1), some (0, 0, bI w), some (0, 0, (i : Int)), some (0, 0, 0)] [] τ1 := fun c8 c7 τ1 M1 E2 f2 hp2 => by
        rw [if_neg c8, if_pos c7] at hL
        exact fs_seCond6_72 hG ⟨u0, fun _ => g84 (Or.inr c7) τ1 0 1 true (L1 ++ fl w) [] (bI_o w) M1 E2 f2 hp2 (Or.inl ⟨fw_c0, rfl⟩) (by rw [List.append_assoc]; exact hL)⟩
      have go : tw e p1 ≠ 8 → tw e p1 = 7 → G 47 [some (2, 65, 0), some (2, 1, 0), some (2, 3, 0), some (0, 0, 9 - ((6 : Nat) : Int)), some (0, 0, 1), some (0, 0, bI w), some (0, 0, (i : Int)), o7] [] τ := fun c8 c7 =>
        fs_seCond6_47 hG (iw τ 8 _ E1 (by decide) (by decide) (fun z => absurd z c8) (fun _ => fs_seCond6_54 hG ⟨u0, fun _ => ⟨fun z => gb c8 c7 τ M E1 f1 (by rw [bI_0 z]; exact pk_tr hp (show pk τ τ (fl false) from pk_0 τ)), fun z => ⟨_, _, rfl, fun τ' M' P' => gb c8 c7 τ' (ev_tr M (add M')) (E1.M M' (by decide) (by decide)) ((mk_at M' (k := 65) (j := 4) (by decide)).trans f1) (by rw [bI_1 z]; exact pk_tr hp (P' c2 fw_c0))⟩⟩⟩))
      refine fs_seCond6_15 hG ⟨fun z => absurd z (by rw [c20, ci]; omega), fun _ => ⟨u1, fun _ => iw τ 8 _ E1 (by decide) (by decide) (fun c => fs_seCond6_34 hG ⟨fun _ => ga c, u1⟩) (fun c8 => fs_seCond6_34 hG ⟨u0, fun _ => iw τ 7 _ E1 (by decide) (by decide) (fun c => fs_seCond6_44 hG ⟨u1, fun _ => go c8 c⟩) (fun c7 => fs_seCond6_44 hG ⟨fun _ => stop (fun z => z.elim c8 c7), u0⟩)⟩)⟩⟩
  exact fs_seCond6_0 hG ⟨A, e, p, o, rfl, hN, E, ⟨h4, ho⟩, fun q σ' M a b => fs_seCond6_7 hG (ex0 σ' 0 0 none (fun τ' M' => by
    have en : sn_cd (sn_one A e 6) e o p = sn_one A e 6 o p := if_pos q
    rw [en] at h
    exact h.1 q τ' (ev_tr M (add M')) ((mk_row M' (k := 1) (by decide) 9).trans a) ((mk_row M' (k := 1) (by decide) 10).trans b))), fun q σ' M E' f' p' => fs_seCond6_7 hG (by
    have gr := og o p ho q
    exact loop 20 0 _ _ σ' false _ none rfl (by omega) gr.2 M E' f' p' (if_neg (fun z => z q)) rfl)⟩)
end
abbrev fk_seOne7 : List fw_CR := [(41, 3, true, 5, 18, sp_seCond 6), (48, 1, true, 8, 0, sp_refuse), (52, 3, true, 5, 17, sp_seOne 6), (68, 2, true, 5, 1, sp_seAdd), (72, 0, true, 8, 2, sp_step), (75, 1, false, 0, 1, sp_seKind), (79, 1, true, 8, 3, sp_takeSign), (82, 3, true, 5, 3, sp_seNamed), (85, 2, true, 5, 3, sp_seMeas)]
abbrev st_seOne7 : fw_K → fw_KR → fw_K := fw_st vwCl nn_sh nn_kd fw_kv fw_wc (nn_KI5.map (fun x => x.1)) (nn_KJ5.map (fun x => x.1)) (nn_PF5.map (fun x => x.1)) (nn_PS5.map (fun x => x.1)) fk_seOne7 19 nn_dt175 7 1
theorem fs_seOne7_0 {G : fw_K} {R : fw_KR} (hG : fw_cls st_seOne7 R G) {d : Int} {σ : ab_SG} (h : sp_seKind [(2, 1, 0)] σ (fun rv σ2 => G 4 [some (2, 65, 0), some (2, 1, 0), some (2, 3, 0), some (0, 0, d), none, none, none] (rv.toList ++ []) σ2)) : G 0 [some (2, 65, 0), some (2, 1, 0), some (2, 3, 0), some (0, 0, d), none, none, none] [] σ := fw_on hG [4, 20, 38, 39, 54, 59, 74, 88, 97, 120, 128, 146, 156] 200 h
theorem fs_seOne7_4 {G : fw_K} {R : fw_KR} (hG : fw_cls st_seOne7 R G) {a3 b0 : Int} {o4 o6 : Option ab_AV} {σ : ab_SG} (h : (fw_c (σ 1 5) ≠ fw_c 40 → G 20 [some (2, 65, 0), some (2, 1, 0), some (2, 3, 0), some (0, 0, a3), some (0, 0, b0), none, o6] [(0, 0, 0)] σ) ∧ (fw_c (σ 1 5) = fw_c 40 → G 20 [some (2, 65, 0), some (2, 1, 0), some (2, 3, 0), some (0, 0, a3), some (0, 0, b0), none, o6] [(0, 0, 1)] σ)) : G 4 [some (2, 65, 0), some (2, 1, 0), some (2, 3, 0), some (0, 0, a3), o4, none, o6] [(0, 0, b0)] σ := fw_on hG [4, 20, 38, 39, 54, 59, 74, 88, 97, 120, 128, 146, 156] 200 h
theorem fs_seOne7_20 {G : fw_K} {R : fw_KR} (hG : fw_cls st_seOne7 R G) {a3 a4 b0 : Int} {o6 : Option ab_AV} {σ : ab_SG} (h : (fw_c a4 ≠ fw_c (-1) → G 39 [some (2, 65, 0), some (2, 1, 0), some (2, 3, 0), some (0, 0, a3), some (0, 0, a4), some (0, 0, b0), o6] [] σ) ∧ (fw_c a4 = fw_c (-1) → (fw_c b0 ≠ 0 → G 39 [some (2, 65, 0), some (2, 1, 0), some (2, 3, 0), some (0, 0, a3), some (0, 0, a4), some (0, 0, b0), o6] [] σ) ∧ (fw_c b0 = 0 → sp_refuse [(2, 1, 0), (0, 0, 1)] σ (fun rv σ2 => G 38 [some (2, 65, 0), some (2, 1, 0), some (2, 3, 0), some (0, 0, a3), some (0, 0, a4), some (0, 0, b0), o6] (rv.toList ++ []) σ2)))) : G 20 [some (2, 65, 0), some (2, 1, 0), some (2, 3, 0), some (0, 0, a3), some (0, 0, a4), none, o6] [(0, 0, b0)] σ := fw_on hG [4, 20, 38, 39, 54, 59, 74, 88, 97, 120, 128, 146, 156] 200 h
theorem fs_seOne7_39 {G : fw_K} {R : fw_KR} (hG : fw_cls st_seOne7 R G) {a3 a4 a5 : Int} {o6 : Option ab_AV} {σ : ab_SG} (h : (fw_c 20 ≤ fw_c (σ 65 4) → G 54 [some (2, 65, 0), some (2, 1, 0), some (2, 3, 0), some (0, 0, a3), some (0, 0, a4), some (0, 0, a5), o6] [] σ) ∧ (fw_c (σ 65 4) < fw_c 20 → (fw_c a3 ≤ fw_c 8 → sp_step [(2, 1, 0)] (ab_ups σ 65 4 (fw_c ((σ 65 4) + 1))) (fun rv σ2 => G 74 [some (2, 65, 0), some (2, 1, 0), some (2, 3, 0), some (0, 0, a3), some (0, 0, a4), some (0, 0, a5), o6] (rv.toList ++ []) σ2)) ∧ (fw_c 8 < fw_c a3 → G 54 [some (2, 65, 0), some (2, 1, 0), some (2, 3, 0), some (0, 0, a3), some (0, 0, a4), some (0, 0, a5), o6] [] σ))) : G 39 [some (2, 65, 0), some (2, 1, 0), some (2, 3, 0), some (0, 0, a3), some (0, 0, a4), some (0, 0, a5), o6] [] σ := fw_on hG [4, 20, 38, 39, 54, 59, 74, 88, 97, 120, 128, 146, 156] 200 h
theorem fs_seOne7_38 {G : fw_K} {R : fw_KR} (hG : fw_cls st_seOne7 R G) {a5 b0 : Int} {o1 o2 o3 o4 o6 : Option ab_AV} {σ : ab_SG} (h : (0 ≤ fw_c b0 ∧ fw_c b0 ≤ 1) ∧ R (some (0, 0, b0)) σ) : G 38 [some (2, 65, 0), o1, o2, o3, o4, some (0, 0, a5), o6] [(0, 0, b0)] σ := fw_on hG [4, 20, 38, 39, 54, 59, 74, 88, 97, 120, 128, 146, 156] 200 h
theorem fs_seOne7_54 {G : fw_K} {R : fw_KR} (hG : fw_cls st_seOne7 R G) {a5 : Int} {o2 o3 o4 o6 : Option ab_AV} {σ : ab_SG} (h : sp_refuse [(2, 1, 0), (0, 0, 4)] σ (fun rv σ2 => G 59 [some (2, 65, 0), some (2, 1, 0), o2, o3, o4, some (0, 0, a5), o6] (rv.toList ++ []) σ2)) : G 54 [some (2, 65, 0), some (2, 1, 0), o2, o3, o4, some (0, 0, a5), o6] [] σ := fw_on hG [4, 20, 38, 39, 54, 59, 74, 88, 97, 120, 128, 146, 156] 200 h
theorem fs_seOne7_74 {G : fw_K} {R : fw_KR} (hG : fw_cls st_seOne7 R G) {a3 a4 a5 : Int} {o6 : Option ab_AV} {σ : ab_SG} (h : (fw_c a5 = 0 → (fw_c a4 ≠ 0 → (fw_c 6 ≤ fw_c a4 → sp_seMeas [(2, 65, 0), (2, 1, 0), (0, 0, a4)] σ (fun rv σ2 => G 156 [some (2, 65, 0), some (2, 1, 0), some (2, 3, 0), some (0, 0, a3), some (0, 0, a4), some (0, 0, a5), o6] (rv.toList ++ []) σ2)) ∧ (fw_c a4 < fw_c 6 → sp_seNamed [(2, 65, 0), (2, 1, 0), (2, 3, 0), (0, 0, a4)] σ (fun rv σ2 => G 146 [some (2, 65, 0), some (2, 1, 0), some (2, 3, 0), some (0, 0, a3), some (0, 0, a4), some (0, 0, a5), o6] (rv.toList ++ []) σ2))) ∧ (fw_c a4 = 0 → sp_seOne 6 [(2, 65, 0), (2, 1, 0), (2, 3, 0), (0, 0, a3 + 1)] σ (fun rv σ2 => G 120 [some (2, 65, 0), some (2, 1, 0), some (2, 3, 0), some (0, 0, a3), some (0, 0, a4), some (0, 0, a5), o6] (rv.toList ++ []) σ2))) ∧ (fw_c a5 ≠ 0 → sp_seCond 6 [(2, 65, 0), (2, 1, 0), (2, 3, 0), (0, 0, a3 + 1)] σ (fun rv σ2 => G 88 [some (2, 65, 0), some (2, 1, 0), some (2, 3, 0), some (0, 0, a3), some (0, 0, a4), some (0, 0, a5), o6] (rv.toList ++ []) σ2))) : G 74 [some (2, 65, 0), some (2, 1, 0), some (2, 3, 0), some (0, 0, a3), some (0, 0, a4), some (0, 0, a5), o6] [] σ := fw_on hG [4, 20, 38, 39, 54, 59, 74, 88, 97, 120, 128, 146, 156] 200 h
theorem fs_seOne7_59 {G : fw_K} {R : fw_KR} (hG : fw_cls st_seOne7 R G) {a5 b0 : Int} {o1 o2 o3 o4 o6 : Option ab_AV} {σ : ab_SG} (h : (0 ≤ fw_c b0 ∧ fw_c b0 ≤ 1) ∧ R (some (0, 0, b0)) σ) : G 59 [some (2, 65, 0), o1, o2, o3, o4, some (0, 0, a5), o6] [(0, 0, b0)] σ := fw_on hG [4, 20, 38, 39, 54, 59, 74, 88, 97, 120, 128, 146, 156] 200 h
theorem fs_seOne7_156 {G : fw_K} {R : fw_KR} (hG : fw_cls st_seOne7 R G) {a5 b0 : Int} {o1 o2 o3 o4 o6 : Option ab_AV} {σ : ab_SG} (h : (0 ≤ fw_c b0 ∧ fw_c b0 ≤ 1) ∧ R (some (0, 0, b0)) σ) : G 156 [some (2, 65, 0), o1, o2, o3, o4, some (0, 0, a5), o6] [(0, 0, b0)] σ := fw_on hG [4, 20, 38, 39, 54, 59, 74, 88, 97, 120, 128, 146, 156] 200 h
theorem fs_seOne7_146 {G : fw_K} {R : fw_KR} (hG : fw_cls st_seOne7 R G) {a5 b0 : Int} {o1 o2 o3 o4 o6 : Option ab_AV} {σ : ab_SG} (h : G 156 [some (2, 65, 0), o1, o2, o3, o4, some (0, 0, a5), o6] [(0, 0, b0)] σ) : G 146 [some (2, 65, 0), o1, o2, o3, o4, some (0, 0, a5), o6] [(0, 0, b0)] σ := fw_on hG [4, 20, 38, 39, 54, 59, 74, 88, 97, 120, 128, 146, 156] 200 h
theorem fs_seOne7_120 {G : fw_K} {R : fw_KR} (hG : fw_cls st_seOne7 R G) {a5 b0 : Int} {o1 o2 o3 o4 o6 : Option ab_AV} {σ : ab_SG} (h : sp_seAdd [(2, 65, 0), (0, 0, 0), (0, 0, 0)] σ (fun rv σ2 => G 128 [some (2, 65, 0), o1, o2, o3, o4, some (0, 0, a5), some (0, 0, b0)] (rv.toList ++ []) σ2)) : G 120 [some (2, 65, 0), o1, o2, o3, o4, some (0, 0, a5), o6] [(0, 0, b0)] σ := fw_on hG [4, 20, 38, 39, 54, 59, 74, 88, 97, 120, 128, 146, 156] 200 h
theorem fs_seOne7_88 {G : fw_K} {R : fw_KR} (hG : fw_cls st_seOne7 R G) {a5 b0 : Int} {o2 o3 o4 o6 : Option ab_AV} {σ : ab_SG} (h : (fw_c b0 = 0 → (0 ≤ fw_c 0 ∧ fw_c 0 ≤ 1) ∧ R (some (0, 0, 0)) σ) ∧ (fw_c b0 ≠ 0 → sp_takeSign [(2, 1, 0), (0, 0, 41)] σ (fun rv σ2 => G 97 [some (2, 65, 0), some (2, 1, 0), o2, o3, o4, some (0, 0, a5), o6] (rv.toList ++ []) σ2))) : G 88 [some (2, 65, 0), some (2, 1, 0), o2, o3, o4, some (0, 0, a5), o6] [(0, 0, b0)] σ := fw_on hG [4, 20, 38, 39, 54, 59, 74, 88, 97, 120, 128, 146, 156] 200 h
theorem fs_seOne7_128 {G : fw_K} {R : fw_KR} (hG : fw_cls st_seOne7 R G) {a5 a6 : Int} {o1 o2 o3 o4 : Option ab_AV} {σ : ab_SG} (h : (0 ≤ fw_c a6 ∧ fw_c a6 ≤ 1) ∧ R (some (0, 0, a6)) σ) : G 128 [some (2, 65, 0), o1, o2, o3, o4, some (0, 0, a5), some (0, 0, a6)] [] σ := fw_on hG [4, 20, 38, 39, 54, 59, 74, 88, 97, 120, 128, 146, 156] 200 h
theorem fs_seOne7_97 {G : fw_K} {R : fw_KR} (hG : fw_cls st_seOne7 R G) {a5 b0 : Int} {o1 o2 o3 o4 o6 : Option ab_AV} {σ : ab_SG} (h : (fw_c b0 = 0 → (0 ≤ fw_c 0 ∧ fw_c 0 ≤ 1) ∧ R (some (0, 0, 0)) σ) ∧ (fw_c b0 ≠ 0 → (0 ≤ fw_c 1 ∧ fw_c 1 ≤ 1) ∧ R (some (0, 0, 1)) σ)) : G 97 [some (2, 65, 0), o1, o2, o3, o4, some (0, 0, a5), o6] [(0, 0, b0)] σ := fw_on hG [4, 20, 38, 39, 54, 59, 74, 88, 97, 120, 128, 146, 156] 200 h
abbrev fk_seCond7 : List fw_CR := [(52, 3, true, 5, 19, sp_seOne 7), (61, 1, true, 8, 0, sp_isWord), (68, 2, true, 5, 1, sp_seAdd), (72, 0, true, 8, 2, sp_step)]
abbrev st_seCond7 : fw_K → fw_KR → fw_K := fw_st vwCl nn_sh nn_kd fw_kv fw_wc (nn_KI5.map (fun x => x.1)) (nn_KJ5.map (fun x => x.1)) (nn_PF5.map (fun x => x.1)) (nn_PS5.map (fun x => x.1)) fk_seCond7 20 nn_dt174 8 1
theorem fs_seCond7_0 {G : fw_K} {R : fw_KR} (hG : fw_cls st_seCond7 R G) {d : Int} {σ : ab_SG} (h : sp_seOne 7 [(2, 65, 0), (2, 1, 0), (2, 3, 0), (0, 0, d)] σ (fun rv σ2 => G 7 [some (2, 65, 0), some (2, 1, 0), some (2, 3, 0), some (0, 0, d), none, none, none, none] (rv.toList ++ []) σ2)) : G 0 [some (2, 65, 0), some (2, 1, 0), some (2, 3, 0), some (0, 0, d), none, none, none, none] [] σ := fw_on hG [7, 15, 34, 44, 47, 54, 72, 84, 91, 98, 111, 117, 128] 200 h
theorem fs_seCond7_7 {G : fw_K} {R : fw_KR} (hG : fw_cls st_seCond7 R G) {a3 b0 : Int} {o5 o6 o7 : Option ab_AV} {σ : ab_SG} (h : G 15 [some (2, 65, 0), some (2, 1, 0), some (2, 3, 0), some (0, 0, a3), some (0, 0, b0), some (0, 0, 0), some (0, 0, 0), o7] [] σ) : G 7 [some (2, 65, 0), some (2, 1, 0), some (2, 3, 0), some (0, 0, a3), none, o5, o6, o7] [(0, 0, b0)] σ := fw_on hG [7, 15, 34, 44, 47, 54, 72, 84, 91, 98, 111, 117, 128] 200 h
theorem fs_seCond7_15 {G : fw_K} {R : fw_KR} (hG : fw_cls st_seCond7 R G) {a3 a4 a5 a6 : Int} {o7 : Option ab_AV} {σ : ab_SG} (h : (fw_c 20 ≤ fw_c a6 → G 117 [some (2, 65, 0), some (2, 1, 0), some (2, 3, 0), some (0, 0, a3), some (0, 0, a4), some (0, 0, a5), some (0, 0, a6), o7] [] σ) ∧ (fw_c a6 < fw_c 20 → (fw_c a4 = 0 → G 117 [some (2, 65, 0), some (2, 1, 0), some (2, 3, 0), some (0, 0, a3), some (0, 0, a4), some (0, 0, a5), some (0, 0, a6), o7] [] σ) ∧ (fw_c a4 ≠ 0 → sp_isWord [(2, 1, 0), (4, 0, 8)] σ (fun rv σ2 => G 34 [some (2, 65, 0), some (2, 1, 0), some (2, 3, 0), some (0, 0, a3), some (0, 0, a4), some (0, 0, a5), some (0, 0, a6), o7] (rv.toList ++ []) σ2)))) : G 15 [some (2, 65, 0), some (2, 1, 0), some (2, 3, 0), some (0, 0, a3), some (0, 0, a4), some (0, 0, a5), some (0, 0, a6), o7] [] σ := fw_on hG [7, 15, 34, 44, 47, 54, 72, 84, 91, 98, 111, 117, 128] 200 h
theorem fs_seCond7_117 {G : fw_K} {R : fw_KR} (hG : fw_cls st_seCond7 R G) {a4 a5 : Int} {o1 o2 o3 o6 o7 : Option ab_AV} {σ : ab_SG} (h : (fw_c a5 = 0 → G 128 [some (2, 65, 0), o1, o2, o3, some (0, 0, a4), some (0, 0, a5), o6, o7] [] σ) ∧ (fw_c a5 ≠ 0 → sp_seAdd [(2, 65, 0), (0, 0, 2), (0, 0, 0)] σ (fun rv σ2 => G 128 [some (2, 65, 0), o1, o2, o3, some (0, 0, a4), some (0, 0, a5), o6, o7] (rv.toList ++ []) σ2))) : G 117 [some (2, 65, 0), o1, o2, o3, some (0, 0, a4), some (0, 0, a5), o6, o7] [] σ := fw_on hG [7, 15, 34, 44, 47, 54, 72, 84, 91, 98, 111, 117, 128] 200 h
theorem fs_seCond7_34 {G : fw_K} {R : fw_KR} (hG : fw_cls st_seCond7 R G) {a3 a4 a5 a6 b0 : Int} {o7 : Option ab_AV} {σ : ab_SG} (h : (fw_c b0 ≠ 0 → G 47 [some (2, 65, 0), some (2, 1, 0), some (2, 3, 0), some (0, 0, a3), some (0, 0, a4), some (0, 0, a5), some (0, 0, a6), o7] [] σ) ∧ (fw_c b0 = 0 → sp_isWord [(2, 1, 0), (4, 0, 7)] σ (fun rv σ2 => G 44 [some (2, 65, 0), some (2, 1, 0), some (2, 3, 0), some (0, 0, a3), some (0, 0, a4), some (0, 0, a5), some (0, 0, a6), o7] (rv.toList ++ []) σ2))) : G 34 [some (2, 65, 0), some (2, 1, 0), some (2, 3, 0), some (0, 0, a3), some (0, 0, a4), some (0, 0, a5), some (0, 0, a6), o7] [(0, 0, b0)] σ := fw_on hG [7, 15, 34, 44, 47, 54, 72, 84, 91, 98, 111, 117, 128] 200 h
theorem fs_seCond7_128 {G : fw_K} {R : fw_KR} (hG : fw_cls st_seCond7 R G) {a4 : Int} {o1 o2 o3 o5 o6 o7 : Option ab_AV} {σ : ab_SG} (h : (0 ≤ fw_c a4 ∧ fw_c a4 ≤ 1) ∧ R (some (0, 0, a4)) σ) : G 128 [some (2, 65, 0), o1, o2, o3, some (0, 0, a4), o5, o6, o7] [] σ := fw_on hG [7, 15, 34, 44, 47, 54, 72, 84, 91, 98, 111, 117, 128] 200 h
theorem fs_seCond7_47 {G : fw_K} {R : fw_KR} (hG : fw_cls st_seCond7 R G) {a3 a4 a5 a6 : Int} {o7 : Option ab_AV} {σ : ab_SG} (h : sp_isWord [(2, 1, 0), (4, 0, 8)] σ (fun rv σ2 => G 54 [some (2, 65, 0), some (2, 1, 0), some (2, 3, 0), some (0, 0, a3), some (0, 0, a4), some (0, 0, a5), some (0, 0, a6), o7] (rv.toList ++ []) σ2)) : G 47 [some (2, 65, 0), some (2, 1, 0), some (2, 3, 0), some (0, 0, a3), some (0, 0, a4), some (0, 0, a5), some (0, 0, a6), o7] [] σ := fw_on hG [7, 15, 34, 44, 47, 54, 72, 84, 91, 98, 111, 117, 128] 200 h
theorem fs_seCond7_44 {G : fw_K} {R : fw_KR} (hG : fw_cls st_seCond7 R G) {a3 a4 a5 a6 b0 : Int} {o7 : Option ab_AV} {σ : ab_SG} (h : (fw_c b0 = 0 → G 117 [some (2, 65, 0), some (2, 1, 0), some (2, 3, 0), some (0, 0, a3), some (0, 0, a4), some (0, 0, a5), some (0, 0, a6), o7] [] σ) ∧ (fw_c b0 ≠ 0 → G 47 [some (2, 65, 0), some (2, 1, 0), some (2, 3, 0), some (0, 0, a3), some (0, 0, a4), some (0, 0, a5), some (0, 0, a6), o7] [] σ)) : G 44 [some (2, 65, 0), some (2, 1, 0), some (2, 3, 0), some (0, 0, a3), some (0, 0, a4), some (0, 0, a5), some (0, 0, a6), o7] [(0, 0, b0)] σ := fw_on hG [7, 15, 34, 44, 47, 54, 72, 84, 91, 98, 111, 117, 128] 200 h
theorem fs_seCond7_54 {G : fw_K} {R : fw_KR} (hG : fw_cls st_seCond7 R G) {a3 a4 a5 a6 b0 : Int} {o7 : Option ab_AV} {σ : ab_SG} (h : (fw_c b0 ≠ 0 → G 72 [some (2, 65, 0), some (2, 1, 0), some (2, 3, 0), some (0, 0, a3), some (0, 0, a4), some (0, 0, a5), some (0, 0, a6), some (0, 0, b0)] [] σ) ∧ (fw_c b0 = 0 → (fw_c a5 = 0 → G 72 [some (2, 65, 0), some (2, 1, 0), some (2, 3, 0), some (0, 0, a3), some (0, 0, a4), some (0, 0, a5), some (0, 0, a6), some (0, 0, b0)] [] σ) ∧ (fw_c a5 ≠ 0 → sp_seAdd [(2, 65, 0), (0, 0, 2), (0, 0, 0)] σ (fun rv σ2 => G 72 [some (2, 65, 0), some (2, 1, 0), some (2, 3, 0), some (0, 0, a3), some (0, 0, a4), some (0, 0, a5), some (0, 0, a6), some (0, 0, b0)] (rv.toList ++ []) σ2)))) : G 54 [some (2, 65, 0), some (2, 1, 0), some (2, 3, 0), some (0, 0, a3), some (0, 0, a4), some (0, 0, a5), some (0, 0, a6), o7] [(0, 0, b0)] σ := fw_on hG [7, 15, 34, 44, 47, 54, 72, 84, 91, 98, 111, 117, 128] 200 h
theorem fs_seCond7_72 {G : fw_K} {R : fw_KR} (hG : fw_cls st_seCond7 R G) {a3 a4 a5 a6 a7 : Int} {σ : ab_SG} (h : (fw_c a7 ≠ 0 → G 84 [some (2, 65, 0), some (2, 1, 0), some (2, 3, 0), some (0, 0, a3), some (0, 0, a4), some (0, 0, a5), some (0, 0, a6), some (0, 0, a7)] [(0, 0, 0), (0, 0, a5)] σ) ∧ (fw_c a7 = 0 → G 84 [some (2, 65, 0), some (2, 1, 0), some (2, 3, 0), some (0, 0, a3), some (0, 0, a4), some (0, 0, a5), some (0, 0, a6), some (0, 0, a7)] [(0, 0, 1), (0, 0, a5)] σ)) : G 72 [some (2, 65, 0), some (2, 1, 0), some (2, 3, 0), some (0, 0, a3), some (0, 0, a4), some (0, 0, a5), some (0, 0, a6), some (0, 0, a7)] [] σ := fw_on hG [7, 15, 34, 44, 47, 54, 72, 84, 91, 98, 111, 117, 128] 200 h
theorem fs_seCond7_84 {G : fw_K} {R : fw_KR} (hG : fw_cls st_seCond7 R G) {a3 a4 a6 a7 b0 b1 : Int} {o5 : Option ab_AV} {σ : ab_SG} (h : sp_step [(2, 1, 0)] σ (fun rv σ2 => G 91 [some (2, 65, 0), some (2, 1, 0), some (2, 3, 0), some (0, 0, a3), some (0, 0, a4), some (0, 0, fw_op 9 b1 b0), some (0, 0, a6), some (0, 0, a7)] (rv.toList ++ []) σ2)) : G 84 [some (2, 65, 0), some (2, 1, 0), some (2, 3, 0), some (0, 0, a3), some (0, 0, a4), o5, some (0, 0, a6), some (0, 0, a7)] [(0, 0, b0), (0, 0, b1)] σ := fw_on hG [7, 15, 34, 44, 47, 54, 72, 84, 91, 98, 111, 117, 128] 200 h
theorem fs_seCond7_91 {G : fw_K} {R : fw_KR} (hG : fw_cls st_seCond7 R G) {a3 a4 a5 a6 a7 : Int} {σ : ab_SG} (h : sp_seOne 7 [(2, 65, 0), (2, 1, 0), (2, 3, 0), (0, 0, a3)] σ (fun rv σ2 => G 98 [some (2, 65, 0), some (2, 1, 0), some (2, 3, 0), some (0, 0, a3), some (0, 0, a4), some (0, 0, a5), some (0, 0, a6), some (0, 0, a7)] (rv.toList ++ []) σ2)) : G 91 [some (2, 65, 0), some (2, 1, 0), some (2, 3, 0), some (0, 0, a3), some (0, 0, a4), some (0, 0, a5), some (0, 0, a6), some (0, 0, a7)] [] σ := fw_on hG [7, 15, 34, 44, 47, 54, 72, 84, 91, 98, 111, 117, 128] 200 h
theorem fs_seCond7_98 {G : fw_K} {R : fw_KR} (hG : fw_cls st_seCond7 R G) {a3 a4 a5 a6 a7 b0 : Int} {σ : ab_SG} (h : (fw_c a7 = 0 → G 111 [some (2, 65, 0), some (2, 1, 0), some (2, 3, 0), some (0, 0, a3), some (0, 0, b0), some (0, 0, a5), some (0, 0, a6), some (0, 0, a7)] [] σ) ∧ (fw_c a7 ≠ 0 → sp_seAdd [(2, 65, 0), (0, 0, 1), (0, 0, 0)] σ (fun rv σ2 => G 111 [some (2, 65, 0), some (2, 1, 0), some (2, 3, 0), some (0, 0, a3), some (0, 0, b0), some (0, 0, a5), some (0, 0, a6), some (0, 0, a7)] (rv.toList ++ []) σ2))) : G 98 [some (2, 65, 0), some (2, 1, 0), some (2, 3, 0), some (0, 0, a3), some (0, 0, a4), some (0, 0, a5), some (0, 0, a6), some (0, 0, a7)] [(0, 0, b0)] σ := fw_on hG [7, 15, 34, 44, 47, 54, 72, 84, 91, 98, 111, 117, 128] 200 h
theorem fs_seCond7_111 {G : fw_K} {R : fw_KR} (hG : fw_cls st_seCond7 R G) {a3 a4 a5 a6 : Int} {o7 : Option ab_AV} {σ : ab_SG} (h : G 15 [some (2, 65, 0), some (2, 1, 0), some (2, 3, 0), some (0, 0, a3), some (0, 0, a4), some (0, 0, a5), some (0, 0, a6 + 1), o7] [] σ) : G 111 [some (2, 65, 0), some (2, 1, 0), some (2, 3, 0), some (0, 0, a3), some (0, 0, a4), some (0, 0, a5), some (0, 0, a6), o7] [] σ := fw_on hG [7, 15, 34, 44, 47, 54, 72, 84, 91, 98, 111, 117, 128] 200 h
section
variable {l : Launch} {cy : Nat → ClassId} {ad wr cr : Nat → Nat} {D : va_G}
theorem fm_seOne7 (hinj : nn_inj ad) : fw_H l cy ad wr cr D 175 19 (sp_seOne 7) := fw_mk hinj (⟨"NameNotes$Sentence", "readOne", "(LNameNotes$Tape;LNameNotes$Studio;I)Z"⟩, prog_7_method_6_code, 7, (Option.some Jvm.ClassFile.FieldType.boolean), 3, true, 1) rfl rfl nn_KI5_ok nn_KJ5_ok nn_PF5_ok nn_PS5_ok (by decide +kernel) rfl rfl (List.forall_mem_cons.mpr ⟨fw_row nn_PM5_ok (x := 41) (k := 0) (mn := 174) (np := 3) (ob := true) (ci := 5) (⟨"NameNotes$Sentence", "readCond", "(LNameNotes$Tape;LNameNotes$Studio;I)Z"⟩, prog_7_method_5_code, 8, (Option.some Jvm.ClassFile.FieldType.boolean), 3, true, 1) rfl (by decide +kernel) rfl rfl (by decide) (fun _ => ⟨_, _, rfl⟩) (fm_seCond6 hinj), (List.forall_mem_cons.mpr ⟨fw_row nn_PM5_ok (x := 48) (k := 0) (mn := 22) (np := 1) (ob := true) (ci := 8) (⟨"NameNotes$Tape", "refuse", "(I)Z"⟩, prog_10_method_14_code, 2, (Option.some Jvm.ClassFile.FieldType.boolean), 1, true, 1) rfl (by decide +kernel) rfl rfl (by decide) (fun _ => ⟨_, _, rfl⟩) (fm_refuse hinj), (List.forall_mem_cons.mpr ⟨fw_row nn_PM5_ok (x := 52) (k := 0) (mn := 175) (np := 3) (ob := true) (ci := 5) (⟨"NameNotes$Sentence", "readOne", "(LNameNotes$Tape;LNameNotes$Studio;I)Z"⟩, prog_7_method_6_code, 7, (Option.some Jvm.ClassFile.FieldType.boolean), 3, true, 1) rfl (by decide +kernel) rfl rfl (by decide) (fun _ => ⟨_, _, rfl⟩) (fm_seOne6 hinj), (List.forall_mem_cons.mpr ⟨fw_row nn_PM5_ok (x := 68) (k := 0) (mn := 177) (np := 2) (ob := true) (ci := 5) (⟨"NameNotes$Sentence", "addStep", "(II)V"⟩, prog_7_method_10_code, 3, (Option.none : Option Jvm.ClassFile.FieldType), 2, true, 4) rfl (by decide +kernel) rfl rfl (by decide) (fun _ => ⟨_, _, rfl⟩) (fm_seAdd hinj), (List.forall_mem_cons.mpr ⟨fw_row nn_PM5_ok (x := 72) (k := 0) (mn := 10) (np := 0) (ob := true) (ci := 8) (⟨"NameNotes$Tape", "step", "()V"⟩, prog_10_method_5_code, 2, (Option.none : Option Jvm.ClassFile.FieldType), 0, true, 4) rfl (by decide +kernel) rfl rfl (by decide) (fun _ => ⟨_, _, rfl⟩) (fm_step hinj), (List.forall_mem_cons.mpr ⟨fw_row nn_PM5_ok (x := 75) (k := 0) (mn := 176) (np := 1) (ob := false) (ci := 0) (⟨"NameNotes$Sentence", "kindOf", "(LNameNotes$Tape;)I"⟩, prog_7_method_9_code, 1, (Option.some Jvm.ClassFile.FieldType.int), 1, false, 0) rfl (by decide +kernel) rfl rfl (by decide) (fun q => by cases q) (fm_seKind hinj), (List.forall_mem_cons.mpr ⟨fw_row nn_PM5_ok (x := 79) (k := 0) (mn := 40) (np := 1) (ob := true) (ci := 8) (⟨"NameNotes$Tape", "takeSign", "(I)Z"⟩, prog_10_method_13_code, 2, (Option.some Jvm.ClassFile.FieldType.boolean), 1, true, 1) rfl (by decide +kernel) rfl rfl (by decide) (fun _ => ⟨_, _, rfl⟩) (fm_takeSign hinj), (List.forall_mem_cons.mpr ⟨fw_row nn_PM5_ok (x := 82) (k := 0) (mn := 178) (np := 3) (ob := true) (ci := 5) (⟨"NameNotes$Sentence", "readNamed", "(LNameNotes$Tape;LNameNotes$Studio;I)Z"⟩, prog_7_method_7_code, 5, (Option.some Jvm.ClassFile.FieldType.boolean), 3, true, 1) rfl (by decide +kernel) rfl rfl (by decide) (fun _ => ⟨_, _, rfl⟩) (fm_seNamed hinj), (List.forall_mem_cons.mpr ⟨fw_row nn_PM5_ok (x := 85) (k := 0) (mn := 179) (np := 2) (ob := true) (ci := 5) (⟨"NameNotes$Sentence", "readMeasured", "(LNameNotes$Tape;I)Z"⟩, prog_7_method_8_code, 4, (Option.some Jvm.ClassFile.FieldType.boolean), 2, true, 1) rfl (by decide +kernel) rfl rfl (by decide) (fun _ => ⟨_, _, rfl⟩) (fm_seMeas hinj), (fun _ h => absurd h List.not_mem_nil)⟩)⟩)⟩)⟩)⟩)⟩)⟩)⟩)⟩) (fun as σ K h => by
  obtain ⟨A, e, p, o, rfl, hN, E, ⟨h4, ho⟩, h⟩ := h
  have tk1 := (tk_can e p).1
  have m1 : fw_c (-1) = -1 := fw_s (by decide) (by decide)
  have c40 : fw_c 40 = 40 := fw_s (by decide) (by decide)
  have c20 : fw_c 20 = 20 := fw_s (by decide) (by decide)
  have c8 : fw_c 8 = 8 := fw_s (by decide) (by decide)
  have c6 : fw_c 6 = 6 := fw_s (by decide) (by decide)
  have cd : fw_c (9 - ((7 : Nat) : Int)) = 9 - ((7 : Nat) : Int) := fw_s (by decide) (by decide)
  have c4 : fw_c (σ 65 4) = (o : Int) := by rw [h4]; exact fw_s (by omega) (by omega)
  have sv := sk_in e p
  have csk : fw_c (sk_v e p) = sk_v e p := fw_s (by omega) (by omega)
  have n40 : (tk e p).1 = 40 → ¬ (9 ≤ tw e p ∧ tw e p ≤ 16) := fun z y => by
    have := tw_k (e := e) (p := p) (by omega)
    omega
  refine ⟨rfl, fun G hG => fs_seOne7_0 hG ⟨e, p, rfl, E, fs_seOne7_4 hG ?_⟩⟩
  rw [E.kind.2, c40]
  have four : sn_st e p → sn_one A e 7 o p = (4, ev_st e p, o, p) → ∀ a5 : Int, G 54 [some (2, 65, 0), some (2, 1, 0), some (2, 3, 0), some (0, 0, 9 - ((7 : Nat) : Int)), some (0, 0, sk_v e p), some (0, 0, a5), none] [] σ := fun y en a5 => by
    rw [en] at h
    exact fs_seOne7_54 hG ⟨4, rfl, E.rf (x := 4) (v := 0) (K := fun rv σ2 => G 59 [some (2, 65, 0), some (2, 1, 0), some (2, 3, 0), some (0, 0, 9 - ((7 : Nat) : Int)), some (0, 0, sk_v e p), some (0, 0, a5), none] (rv.toList ++ []) σ2) (by decide) (fun σ' a b c => fs_seOne7_59 hG ⟨fw_01, h.1 (show (4 : Int) ≠ 0 by decide) σ' (ev_up a (by decide)) b c⟩)⟩
  have go : sn_st e p → ∀ a5 : Int, ((a5 = 1 ∧ (tk e p).1 = 40) ∨ (a5 = 0 ∧ (tk e p).1 ≠ 40)) → G 39 [some (2, 65, 0), some (2, 1, 0), some (2, 3, 0), some (0, 0, 9 - ((7 : Nat) : Int)), some (0, 0, sk_v e p), some (0, 0, a5), none] [] σ := by
    intro y a5 h5
    refine fs_seOne7_39 hG ?_
    rw [c4, c20, c8, cd, h4]
    refine ⟨fun z => four y ?_ a5, fun z => ⟨fun _ => ⟨rfl, ?_⟩, fun z => absurd z (by decide)⟩⟩
    · rw [show sn_one A e 7 o p = _ from sn_one_s A e 6 o p, if_neg (fun w => w y), if_pos (by omega)]
    have en : sn_one A e 7 o p = _ := sn_one_s A e 6 o p
    rw [if_neg (fun w => w y), if_neg (by omega)] at en
    have ln : sl_one A e 7 o p = _ := sl_one_s A e 6 o p
    have co : fw_c ((o : Int) + 1) = ((o + 1 : Nat) : Int) := fw_s (by omega) (by omega)
    rw [co]
    have E1 : eD (ab_ups σ 65 4 ((o + 1 : Nat) : Int)) e p := E.M (M := [(65, 4)]) okM_one (by decide) (by decide)
    have M1 : ab_okM sN_M σ (ab_ups σ 65 4 ((o + 1 : Nat) : Int)) := fw_okM_ups (fw_okM_refl _ _) (by decide)
    have Q1 : ab_okM [(65, 4)] σ (ab_ups σ 65 4 ((o + 1 : Nat) : Int)) := okM_one
    have f1 : (ab_ups σ 65 4 ((o + 1 : Nat) : Int)) 65 4 = ((o + 1 : Nat) : Int) := ab_ups_eq
    generalize ab_ups σ 65 4 ((o + 1 : Nat) : Int) = σ1 at E1 M1 Q1 f1 ⊢
    refine ⟨E1.st.1, fun σ2 N2 S2 => fs_seOne7_74 hG ?_⟩
    have E2 := E1.st.2 σ2 N2 S2
    have M2 : ab_okM sN_M σ σ2 := ev_tr M1 (ev_up N2 (by decide))
    have p2 : pk σ σ2 [] := pk_l (pk_k (M := [(65, 4)]) Q1 (by decide)) (pk_k N2 (by decide))
    have f2 : σ2 65 4 = ((o + 1 : Nat) : Int) := (mk_row N2 (k := 65) (by decide) 4).trans f1
    have N2' : NC σ2 A := ev_NC M2 (by decide +kernel) hN
    rw [csk, c6]
    -- what comes back is told on
    have p156 : ∀ (r : sn_T) (L : sl_T), sn_one A e 7 o p = r → sl_one A e 7 o p = L → sl_post σ2 r L e (fun rv σ3 => G 156 [some (2, 65, 0), some (2, 1, 0), some (2, 3, 0), some (0, 0, 9 - ((7 : Nat) : Int)), some (0, 0, sk_v e p), some (0, 0, a5), none] (rv.toList ++ []) σ3) := by
      intro r L er el
      rw [er, el] at h
      exact ⟨fun q σ' M a b => fs_seOne7_156 hG ⟨fw_01, h.1 q σ' (ev_tr M2 M) a b⟩, fun q σ' M a b c => fs_seOne7_156 hG ⟨fw_11, h.2 q σ' (ev_tr M2 M) a b (pk_l p2 c)⟩⟩
    refine ⟨fun z5 => ?_, fun z5 => ?_⟩
    · have n4 : (tk e p).1 ≠ 40 := by
        rcases h5 with ⟨q, -⟩ | ⟨-, q⟩
        · rw [q] at z5
          exact absurd (fw_c1.symm.trans z5) (by decide)
        · exact q
      have y2 : 9 ≤ tw e p ∧ tw e p ≤ 16 := y.resolve_left n4
      rw [if_neg n4] at en ln
      refine ⟨fun z6 => ⟨fun z7 => ?_, fun z7 => ?_⟩, fun z6 => ?_⟩
      · rw [if_neg (by omega), if_neg (by omega), if_neg (by omega), if_neg (by omega)] at en ln
        exact ⟨e, tn e p, o + 1, _, rfl, ⟨by omega, by omega⟩, E2, f2, p156 _ _ en ln⟩
      · rw [if_neg (by omega)] at en ln
        have nmd : ∀ (r : sn_T) (L : sl_T), sn_one A e 7 o p = r → sl_one A e 7 o p = L → sl_post σ2 r L e (fun rv σ3 => G 146 [some (2, 65, 0), some (2, 1, 0), some (2, 3, 0), some (0, 0, 9 - ((7 : Nat) : Int)), some (0, 0, sk_v e p), some (0, 0, a5), none] (rv.toList ++ []) σ3) := fun r L er el => ⟨fun q σ' M a b => fs_seOne7_146 hG ((p156 r L er el).1 q σ' M a b), fun q σ' M a b c => fs_seOne7_146 hG ((p156 r L er el).2 q σ' M a b c)⟩
        refine ⟨A, e, tn e p, o + 1, _, rfl, N2', E2, f2, ?_⟩
        by_cases w1 : tw e p = 10
        · rw [if_pos w1] at en ln
          exact Or.inl ⟨by omega, nmd _ _ en ln⟩
        rw [if_neg w1] at en ln
        by_cases w2 : tw e p = 11
        · rw [if_pos w2] at en ln
          exact Or.inr (Or.inl ⟨by omega, nmd _ _ en ln⟩)
        rw [if_neg w2, if_pos (by omega)] at en ln
        exact Or.inr (Or.inr ⟨by omega, nmd _ _ en ln⟩)
      · rw [if_pos (by omega)] at en ln
        rw [en, ln] at h
        refine ⟨A, e, tn e p, o + 1, rfl, N2', E2, ⟨f2, by omega⟩, fun q σ' M a b => fs_seOne7_120 hG ⟨0, 0, rfl, fun σ4 M4 _ => fs_seOne7_128 hG ⟨fw_01, h.1 q σ4 (ev_tr (ev_tr M2 M) (ev_up M4 (by decide))) ((mk_row M4 (k := 1) (by decide) 9).trans a) ((mk_row M4 (k := 1) (by decide) 10).trans b)⟩⟩, fun q σ' M a b c => fs_seOne7_120 hG ⟨0, 0, rfl, fun σ4 M4 P4 => fs_seOne7_128 hG ⟨fw_11, h.2 q σ4 (ev_tr (ev_tr M2 M) (ev_up M4 (by decide))) (a.M M4 (by decide) (by decide)) ((mk_at M4 (k := 65) (j := 4) (by decide)).trans b) (pk_tr (pk_l p2 c) (P4 fw_c0 fw_c0))⟩⟩⟩
    · have n4 : (tk e p).1 = 40 := by
        rcases h5 with ⟨-, q⟩ | ⟨q, -⟩
        · exact q
        · rw [q] at z5
          exact absurd fw_c0 z5
      rw [if_pos n4] at en ln
      generalize hr : sn_cd (sn_one A e 6) e (o + 1) (tn e p) = r at en
      rw [en, ln] at h
      refine ⟨A, e, tn e p, o + 1, rfl, N2', E2, ⟨f2, by omega⟩, ?_⟩
      rw [hr]
      refine ⟨fun q σ' M a b => ?_, fun q σ' M E3 f3 p3 => ?_⟩
      · rw [show sn_br e r = r from if_pos q] at h
        exact fs_seOne7_88 hG ⟨fun _ => ⟨fw_01, h.1 q σ' (ev_tr M2 M) a b⟩, fun z => absurd fw_c0 z⟩
      · have M3 : ab_okM sN_M σ σ' := ev_tr M2 M
        refine fs_seOne7_88 hG ⟨fun z => absurd (fw_c1.symm.trans z) (by decide), fun _ => E3.sg (by decide) (fun w σ4 a b c => ?_) (fun w σ4 M4 E4 => ?_)⟩
        · have eb : sn_br e r = (1, ev_st e r.2.2.2, r.2.2.1, r.2.2.2) := (if_neg (fun z => z q)).trans (if_pos w)
          rw [eb] at h
          exact fs_seOne7_97 hG ⟨fun _ => ⟨fw_01, h.1 (show (1 : Int) ≠ 0 by decide) σ4 (ev_tr M3 (ev_up a (by decide))) b c⟩, fun z => absurd fw_c0 z⟩
        · have eb : sn_br e r = (0, 0, r.2.2.1, tn e r.2.2.2) := (if_neg (fun z => z q)).trans (if_neg (fun z => z w))
          rw [eb] at h
          exact fs_seOne7_97 hG ⟨fun z => absurd (fw_c1.symm.trans z) (by decide), fun _ => ⟨fw_11, h.2 rfl σ4 (ev_tr M3 (ev_up M4 (by decide))) E4 ((mk_row M4 (k := 65) (by decide) 4).trans f3) (pk_l p2 (pk_r p3 (pk_k M4 (by decide))))⟩⟩
  have no : ¬ sn_st e p → G 20 [some (2, 65, 0), some (2, 1, 0), some (2, 3, 0), some (0, 0, 9 - ((7 : Nat) : Int)), some (0, 0, sk_v e p), none, none] [(0, 0, 0)] σ := fun y => by
    have en : sn_one A e 7 o p = (1, ev_st e p, o, p) := (sn_one_s A e 6 o p).trans (if_pos y)
    rw [en] at h
    have ek : sk_v e p = -1 := by
      have : ¬ (9 ≤ tw e p ∧ tw e p ≤ 16) := fun z => y (Or.inr z)
      omega
    refine fs_seOne7_20 hG ⟨fun z => absurd (by rw [ek]) z, fun _ => ⟨fun z => absurd fw_c0 z, fun _ => ⟨1, rfl, E.rf (x := 1) (v := 0) (K := fun rv σ2 => G 38 [some (2, 65, 0), some (2, 1, 0), some (2, 3, 0), some (0, 0, 9 - ((7 : Nat) : Int)), some (0, 0, sk_v e p), some (0, 0, 0), none] (rv.toList ++ []) σ2) (by decide) (fun σ' a b c => fs_seOne7_38 hG ⟨fw_01, h.1 (show (1 : Int) ≠ 0 by decide) σ' (ev_up a (by decide)) b c⟩)⟩⟩⟩
  refine ⟨fun z => ?_, fun z => ?_⟩
  · by_cases y : sn_st e p
    · have y2 : 9 ≤ tw e p ∧ tw e p ≤ 16 := y.resolve_left z
      exact fs_seOne7_20 hG ⟨fun _ => go y 0 (Or.inr ⟨rfl, z⟩), fun u => absurd u (by rw [csk, m1]; omega)⟩
    · exact no y
  · have y : sn_st e p := Or.inl z
    have ek : sk_v e p = -1 := by
      have := n40 z
      omega
    exact fs_seOne7_20 hG ⟨fun u => absurd (by rw [ek]) u, fun _ => ⟨fun _ => go y 1 (Or.inl ⟨rfl, z⟩), fun u => absurd (fw_c1.symm.trans u) (by decide)⟩⟩)
theorem fm_seCond7 (hinj : nn_inj ad) : fw_H l cy ad wr cr D 174 20 (sp_seCond 7) := fw_mk hinj (⟨"NameNotes$Sentence", "readCond", "(LNameNotes$Tape;LNameNotes$Studio;I)Z"⟩, prog_7_method_5_code, 8, (Option.some Jvm.ClassFile.FieldType.boolean), 3, true, 1) rfl rfl nn_KI5_ok nn_KJ5_ok nn_PF5_ok nn_PS5_ok (by decide +kernel) rfl rfl (List.forall_mem_cons.mpr ⟨fw_row nn_PM5_ok (x := 52) (k := 0) (mn := 175) (np := 3) (ob := true) (ci := 5) (⟨"NameNotes$Sentence", "readOne", "(LNameNotes$Tape;LNameNotes$Studio;I)Z"⟩, prog_7_method_6_code, 7, (Option.some Jvm.ClassFile.FieldType.boolean), 3, true, 1) rfl (by decide +kernel) rfl rfl (by decide) (fun _ => ⟨_, _, rfl⟩) (fm_seOne7 hinj), (List.forall_mem_cons.mpr ⟨fw_row nn_PM5_ok (x := 61) (k := 0) (mn := 20) (np := 1) (ob := true) (ci := 8) (⟨"NameNotes$Tape", "isWord", "(LNameNotes$Word;)Z"⟩, prog_10_method_10_code, 2, (Option.some Jvm.ClassFile.FieldType.boolean), 1, true, 1) rfl (by decide +kernel) rfl rfl (by decide) (fun _ => ⟨_, _, rfl⟩) (fm_isWord hinj), (List.forall_mem_cons.mpr ⟨fw_row nn_PM5_ok (x := 68) (k := 0) (mn := 177) (np := 2) (ob := true) (ci := 5) (⟨"NameNotes$Sentence", "addStep", "(II)V"⟩, prog_7_method_10_code, 3, (Option.none : Option Jvm.ClassFile.FieldType), 2, true, 4) rfl (by decide +kernel) rfl rfl (by decide) (fun _ => ⟨_, _, rfl⟩) (fm_seAdd hinj), (List.forall_mem_cons.mpr ⟨fw_row nn_PM5_ok (x := 72) (k := 0) (mn := 10) (np := 0) (ob := true) (ci := 8) (⟨"NameNotes$Tape", "step", "()V"⟩, prog_10_method_5_code, 2, (Option.none : Option Jvm.ClassFile.FieldType), 0, true, 4) rfl (by decide +kernel) rfl rfl (by decide) (fun _ => ⟨_, _, rfl⟩) (fm_step hinj), (fun _ h => absurd h List.not_mem_nil)⟩)⟩)⟩)⟩) (fun as σ K h => by
  obtain ⟨A, e, p, o, rfl, hN, E, ⟨h4, ho⟩, h⟩ := h
  have c20 : fw_c 20 = 20 := fw_s (by decide) (by decide)
  have c2 : fw_c 2 = 2 := fw_s (by decide) (by decide)
  have og := sn_one_gr A e 7
  refine ⟨rfl, fun G hG => ?_⟩
  have ex0 : ∀ (τ : ab_SG) (a5 a6 : Int) (o7 : Option ab_AV), (∀ τ' : ab_SG, ab_okM se_M τ τ' → K (some (0, 0, 0)) τ') → G 15 [some (2, 65, 0), some (2, 1, 0), some (2, 3, 0), some (0, 0, 9 - ((7 : Nat) : Int)), some (0, 0, 0), some (0, 0, a5), some (0, 0, a6), o7] [] τ := by
    intro τ a5 a6 o7 k
    have g : G 117 [some (2, 65, 0), some (2, 1, 0), some (2, 3, 0), some (0, 0, 9 - ((7 : Nat) : Int)), some (0, 0, 0), some (0, 0, a5), some (0, 0, a6), o7] [] τ := fs_seCond7_117 hG ⟨fun _ => fs_seCond7_128 hG ⟨fw_01, k τ (fw_okM_refl _ _)⟩, fun _ => ⟨_, _, rfl, fun τ' M _ => fs_seCond7_128 hG ⟨fw_01, k τ' M⟩⟩⟩
    exact fs_seCond7_15 hG ⟨fun _ => g, fun _ => ⟨fun _ => g, fun z => absurd fw_c0 z⟩⟩
  have ex1 : ∀ (τ : ab_SG) (w : Bool) (a6 : Int) (o7 : Option ab_AV), (∀ τ' : ab_SG, ab_okM se_M τ τ' → pk τ τ' (fl w) → K (some (0, 0, 1)) τ') → G 117 [some (2, 65, 0), some (2, 1, 0), some (2, 3, 0), some (0, 0, 9 - ((7 : Nat) : Int)), some (0, 0, 1), some (0, 0, bI w), some (0, 0, a6), o7] [] τ := fun τ w a6 o7 k =>
    fs_seCond7_117 hG ⟨fun z => fs_seCond7_128 hG ⟨fw_11, k τ (fw_okM_refl _ _) (by rw [bI_0 z]; exact pk_0 τ)⟩, fun z => ⟨_, _, rfl, fun τ' M P => fs_seCond7_128 hG ⟨fw_11, k τ' M (by rw [bI_1 z]; exact P c2 fw_c0)⟩⟩⟩
  have add : ∀ {τ τ' : ab_SG}, ab_okM se_M τ τ' → ab_okM sN_M τ τ' := fun M => ev_up M (by decide)
  have loop : ∀ (g i o1 p1 : Nat) (τ : ab_SG) (w : Bool) (L1 : sl_T) (o7 : Option ab_AV), i + g = 20 → i + 1 ≤ o1 → o1 ≤ 20 → ab_okM sN_M σ τ → eD τ e p1 → τ 65 4 = (o1 : Int) → pk σ τ L1 → sn_cd (sn_one A e 7) e o p = sn_lp (sn_one A e 7) e g o1 p1 → sl_cd (sn_one A e 7) (sl_one A e 7) e o p = L1 ++ sl_lp (sn_one A e 7) (sl_one A e 7) e g w o1 p1 → G 15 [some (2, 65, 0), some (2, 1, 0), some (2, 3, 0), some (0, 0, 9 - ((7 : Nat) : Int)), some (0, 0, 1), some (0, 0, bI w), some (0, 0, (i : Int)), o7] [] τ := by
    intro g
    induction g with
    | zero =>
      intro i o1 p1 τ w L1 o7 hi h1 h2 _ _ _ _ _ _
      omega
    | succ g ih =>
      intro i o1 p1 τ w L1 o7 hi h1 h2 M E1 f1 hp hr hL
      have ci : fw_c (i : Int) = (i : Int) := fw_s (by omega) (by omega)
      rw [sn_lps] at hr
      rw [sl_lps] at hL
      have iw : ∀ (τ1 : ab_SG) (x : Int) (Q : fw_KR), eD τ1 e p1 → 0 ≤ x → x ≤ 16 → (tw e p1 = x → Q (some (0, 0, 1)) τ1) → (tw e p1 ≠ x → Q (some (0, 0, 0)) τ1) → sp_isWord [(2, 1, 0), (4, 0, x)] τ1 Q := by
        intro τ1 x Q E2 h1 h2 a b
        have kw := E2.kw
        refine ⟨x, rfl, ⟨kw.2.1, kw.2.2, by omega, h2⟩, ?_⟩
        by_cases c : tw e p1 = x
        · rw [fw_bo_t ((E2.isw h1).mpr c)]
          exact a c
        · rw [fw_bo_f (fun z => c ((E2.isw h1).mp z))]
          exact b c
      have u0 : ∀ {X : Prop}, fw_c 0 ≠ 0 → X := fun z => absurd fw_c0 z
      have u1 : ∀ {X : Prop}, fw_c 1 = 0 → X := fun z => absurd (fw_c1.symm.trans z) (by decide)
      have n1 : fw_c 1 ≠ 0 := fun z => u1 z
      have stop : ¬ (tw e p1 = 8 ∨ tw e p1 = 7) → G 117 [some (2, 65, 0), some (2, 1, 0), some (2, 3, 0), some (0, 0, 9 - ((7 : Nat) : Int)), some (0, 0, 1), some (0, 0, bI w), some (0, 0, (i : Int)), o7] [] τ := fun c => by
        rw [if_neg c] at hr
        rw [if_neg (fun z => c (Or.inl z)), if_neg (fun z => c (Or.inr z))] at hL
        rw [hr, hL] at h
        exact ex1 τ w _ o7 (fun τ' M' P' => h.2 rfl τ' (ev_tr M (add M')) (E1.M M' (by decide) (by decide)) ((mk_at M' (k := 65) (j := 4) (by decide)).trans f1) (pk_tr hp P'))
      have g84 : (tw e p1 = 8 ∨ tw e p1 = 7) → ∀ (τ1 : ab_SG) (a7 b0 : Int) (w2 : Bool) (L2 T : sl_T), fw_op 9 (bI w) b0 = bI w2 → ab_okM sN_M σ τ1 → eD τ1 e p1 → τ1 65 4 = (o1 : Int) → pk σ τ1 L2 → ((fw_c a7 = 0 ∧ T = []) ∨ (fw_c a7 ≠ 0 ∧ T = [(1, 0)])) → sl_cd (sn_one A e 7) (sl_one A e 7) e o p = L2 ++ (sl_one A e 7 o1 (tn e p1) ++ (T ++ sl_lp (sn_one A e 7) (sl_one A e 7) e g w2 (sn_one A e 7 o1 (tn e p1)).2.2.1 (sn_one A e 7 o1 (tn e p1)).2.2.2)) → G 84 [some (2, 65, 0), some (2, 1, 0), some (2, 3, 0), some (0, 0, 9 - ((7 : Nat) : Int)), some (0, 0, 1), some (0, 0, bI w), some (0, 0, (i : Int)), some (0, 0, a7)] [(0, 0, b0), (0, 0, bI w)] τ1 := by
        intro c τ1 a7 b0 w2 L2 T hb M1 E2 f2 hp2 hT hL2
        refine fs_seCond7_84 hG ⟨rfl, E2.st.1, fun τ2 N2 S2 => fs_seCond7_91 hG ?_⟩
        rw [hb]
        have E3 := E2.st.2 τ2 N2 S2
        have M2 : ab_okM sN_M σ τ2 := ev_tr M1 (ev_up N2 (by decide))
        have p2 : pk σ τ2 L2 := pk_r hp2 (pk_k N2 (by decide))
        rw [if_pos c] at hr
        refine ⟨A, e, tn e p1, o1, rfl, ev_NC M2 (by decide +kernel) hN, E3, ⟨(mk_row N2 (k := 65) (by decide) 4).trans f2, h2⟩, fun q σ' M3 a b => ?_, fun q σ' M3 E4 f4 p4 => ?_⟩
        · rw [if_pos q] at hr
          rw [hr] at h
          have k : ∀ τ' : ab_SG, ab_okM se_M σ' τ' → K (some (0, 0, 0)) τ' := fun τ' M' => h.1 q τ' (ev_tr (ev_tr M2 M3) (add M')) ((mk_row M' (k := 1) (by decide) 9).trans a) ((mk_row M' (k := 1) (by decide) 10).trans b)
          exact fs_seCond7_98 hG ⟨fun _ => fs_seCond7_111 hG (ex0 σ' _ _ _ k), fun _ => ⟨_, _, rfl, fun τ' M' _ => fs_seCond7_111 hG (ex0 τ' _ _ _ (fun τ'' M'' => k τ'' (ev_tr M' M'')))⟩⟩
        · rw [if_neg (fun z => z q)] at hr
          have gr := og o1 (tn e p1) h2 q
          have p5 : pk σ σ' (L2 ++ sl_one A e 7 o1 (tn e p1)) := pk_tr p2 p4
          have nx : ∀ τ' : ab_SG, ab_okM sN_M σ τ' → eD τ' e (sn_one A e 7 o1 (tn e p1)).2.2.2 → τ' 65 4 = ((sn_one A e 7 o1 (tn e p1)).2.2.1 : Int) → pk σ τ' (L2 ++ sl_one A e 7 o1 (tn e p1) ++ T) → G 111 [some (2, 65, 0), some (2, 1, 0), some (2, 3, 0), some (0, 0, 9 - ((7 : Nat) : Int)), some (0, 0, 1), some (0, 0, bI w2), some (0, 0, (i : Int)), some (0, 0, a7)] [] τ' := fun τ' M' E' f' p' => fs_seCond7_111 hG (by
            have g := ih (i + 1) _ _ τ' w2 _ (some (0, 0, a7)) (by omega) (by omega) gr.2 M' E' f' p' hr (by rw [hL2, List.append_assoc, List.append_assoc])
            rw [show ((i + 1 : Nat) : Int) = (i : Int) + 1 from rfl] at g
            exact g)
          rcases hT with ⟨z, eT⟩ | ⟨z, eT⟩
          · exact fs_seCond7_98 hG ⟨fun _ => nx σ' (ev_tr M2 M3) E4 f4 (by rw [eT, List.append_nil]; exact p5), fun y => absurd z y⟩
          · exact fs_seCond7_98 hG ⟨fun y => absurd y z, fun _ => ⟨_, _, rfl, fun τ' M' P' => nx τ' (ev_tr (ev_tr M2 M3) (add M')) (E4.M M' (by decide) (by decide)) ((mk_at M' (k := 65) (j := 4) (by decide)).trans f4) (by rw [eT]; exact pk_tr p5 (P' fw_c1 fw_c0))⟩⟩
      -- AND
      have ga : tw e p1 = 8 → G 47 [some (2, 65, 0), some (2, 1, 0), some (2, 3, 0), some (0, 0, 9 - ((7 : Nat) : Int)), some (0, 0, 1), some (0, 0, bI w), some (0, 0, (i : Int)), o7] [] τ := fun c8 => by
        rw [if_pos c8] at hL
        exact fs_seCond7_47 hG (iw τ 8 _ E1 (by decide) (by decide) (fun _ => fs_seCond7_54 hG ⟨fun _ => fs_seCond7_72 hG ⟨fun _ => g84 (Or.inl c8) τ 1 0 w L1 [(1, 0)] (bI_a w) M E1 f1 hp (Or.inr ⟨n1, rfl⟩) hL, u1⟩, u1⟩) (fun z => absurd c8 z))
      -- OR
      have gb : tw e p1 ≠ 8 → tw e p1 = 7 → ∀ τ1 : ab_SG, ab_okM sN_M σ τ1 → eD τ1 e p1 → τ1 65 4 = (o1 : Int) → pk σ τ1 (L1 ++ fl w) → G 72 [some (2, 65, 0), some (2, 1, 0), some (2, 3, 0), some (0, 0, 9 - ((7 : Nat) : Int)), some (0, 0, 1), some (0, 0, bI w), some (0, 0, (i : Int)), some (0, 0, 0)] [] τ1 := fun c8 c7 τ1 M1 E2 f2 hp2 => by
        rw [if_neg c8, if_pos c7] at hL
        exact fs_seCond7_72 hG ⟨u0, fun _ => g84 (Or.inr c7) τ1 0 1 true (L1 ++ fl w) [] (bI_o w) M1 E2 f2 hp2 (Or.inl ⟨fw_c0, rfl⟩) (by rw [List.append_assoc]; exact hL)⟩
      have go : tw e p1 ≠ 8 → tw e p1 = 7 → G 47 [some (2, 65, 0), some (2, 1, 0), some (2, 3, 0), some (0, 0, 9 - ((7 : Nat) : Int)), some (0, 0, 1), some (0, 0, bI w), some (0, 0, (i : Int)), o7] [] τ := fun c8 c7 =>
        fs_seCond7_47 hG (iw τ 8 _ E1 (by decide) (by decide) (fun z => absurd z c8) (fun _ => fs_seCond7_54 hG ⟨u0, fun _ => ⟨fun z => gb c8 c7 τ M E1 f1 (by rw [bI_0 z]; exact pk_tr hp (show pk τ τ (fl false) from pk_0 τ)), fun z => ⟨_, _, rfl, fun τ' M' P' => gb c8 c7 τ' (ev_tr M (add M')) (E1.M M' (by decide) (by decide)) ((mk_at M' (k := 65) (j := 4) (by decide)).trans f1) (by rw [bI_1 z]; exact pk_tr hp (P' c2 fw_c0))⟩⟩⟩))
      refine fs_seCond7_15 hG ⟨fun z => absurd z (by rw [c20, ci]; omega), fun _ => ⟨u1, fun _ => iw τ 8 _ E1 (by decide) (by decide) (fun c => fs_seCond7_34 hG ⟨fun _ => ga c, u1⟩) (fun c8 => fs_seCond7_34 hG ⟨u0, fun _ => iw τ 7 _ E1 (by decide) (by decide) (fun c => fs_seCond7_44 hG ⟨u1, fun _ => go c8 c⟩) (fun c7 => fs_seCond7_44 hG ⟨fun _ => stop (fun z => z.elim c8 c7), u0⟩)⟩)⟩⟩
  exact fs_seCond7_0 hG ⟨A, e, p, o, rfl, hN, E, ⟨h4, ho⟩, fun q σ' M a b => fs_seCond7_7 hG (ex0 σ' 0 0 none (fun τ' M' => by
    have en : sn_cd (sn_one A e 7) e o p = sn_one A e 7 o p := if_pos q
    rw [en] at h
    exact h.1 q τ' (ev_tr M (add M')) ((mk_row M' (k := 1) (by decide) 9).trans a) ((mk_row M' (k := 1) (by decide) 10).trans b))), fun q σ' M E' f' p' => fs_seCond7_7 hG (by
    have gr := og o p ho q
    exact loop 20 0 _ _ σ' false _ none rfl (by omega) gr.2 M E' f' p' (if_neg (fun z => z q)) rfl)⟩)
end
abbrev fk_seOne8 : List fw_CR := [(41, 3, true, 5, 20, sp_seCond 7), (48, 1, true, 8, 0, sp_refuse), (52, 3, true, 5, 19, sp_seOne 7), (68, 2, true, 5, 1, sp_seAdd), (72, 0, true, 8, 2, sp_step), (75, 1, false, 0, 1, sp_seKind), (79, 1, true, 8, 3, sp_takeSign), (82, 3, true, 5, 3, sp_seNamed), (85, 2, true, 5, 3, sp_seMeas)]
abbrev st_seOne8 : fw_K → fw_KR → fw_K := fw_st vwCl nn_sh nn_kd fw_kv fw_wc (nn_KI5.map (fun x => x.1)) (nn_KJ5.map (fun x => x.1)) (nn_PF5.map (fun x => x.1)) (nn_PS5.map (fun x => x.1)) fk_seOne8 21 nn_dt175 7 1
theorem fs_seOne8_0 {G : fw_K} {R : fw_KR} (hG : fw_cls st_seOne8 R G) {d : Int} {σ : ab_SG} (h : sp_seKind [(2, 1, 0)] σ (fun rv σ2 => G 4 [some (2, 65, 0), some (2, 1, 0), some (2, 3, 0), some (0, 0, d), none, none, none] (rv.toList ++ []) σ2)) : G 0 [some (2, 65, 0), some (2, 1, 0), some (2, 3, 0), some (0, 0, d), none, none, none] [] σ := fw_on hG [4, 20, 38, 39, 54, 59, 74, 88, 97, 120, 128, 146, 156] 200 h
theorem fs_seOne8_4 {G : fw_K} {R : fw_KR} (hG : fw_cls st_seOne8 R G) {a3 b0 : Int} {o4 o6 : Option ab_AV} {σ : ab_SG} (h : (fw_c (σ 1 5) ≠ fw_c 40 → G 20 [some (2, 65, 0), some (2, 1, 0), some (2, 3, 0), some (0, 0, a3), some (0, 0, b0), none, o6] [(0, 0, 0)] σ) ∧ (fw_c (σ 1 5) = fw_c 40 → G 20 [some (2, 65, 0), some (2, 1, 0), some (2, 3, 0), some (0, 0, a3), some (0, 0, b0), none, o6] [(0, 0, 1)] σ)) : G 4 [some (2, 65, 0), some (2, 1, 0), some (2, 3, 0), some (0, 0, a3), o4, none, o6] [(0, 0, b0)] σ := fw_on hG [4, 20, 38, 39, 54, 59, 74, 88, 97, 120, 128, 146, 156] 200 h
theorem fs_seOne8_20 {G : fw_K} {R : fw_KR} (hG : fw_cls st_seOne8 R G) {a3 a4 b0 : Int} {o6 : Option ab_AV} {σ : ab_SG} (h : (fw_c a4 ≠ fw_c (-1) → G 39 [some (2, 65, 0), some (2, 1, 0), some (2, 3, 0), some (0, 0, a3), some (0, 0, a4), some (0, 0, b0), o6] [] σ) ∧ (fw_c a4 = fw_c (-1) → (fw_c b0 ≠ 0 → G 39 [some (2, 65, 0), some (2, 1, 0), some (2, 3, 0), some (0, 0, a3), some (0, 0, a4), some (0, 0, b0), o6] [] σ) ∧ (fw_c b0 = 0 → sp_refuse [(2, 1, 0), (0, 0, 1)] σ (fun rv σ2 => G 38 [some (2, 65, 0), some (2, 1, 0), some (2, 3, 0), some (0, 0, a3), some (0, 0, a4), some (0, 0, b0), o6] (rv.toList ++ []) σ2)))) : G 20 [some (2, 65, 0), some (2, 1, 0), some (2, 3, 0), some (0, 0, a3), some (0, 0, a4), none, o6] [(0, 0, b0)] σ := fw_on hG [4, 20, 38, 39, 54, 59, 74, 88, 97, 120, 128, 146, 156] 200 h
theorem fs_seOne8_39 {G : fw_K} {R : fw_KR} (hG : fw_cls st_seOne8 R G) {a3 a4 a5 : Int} {o6 : Option ab_AV} {σ : ab_SG} (h : (fw_c 20 ≤ fw_c (σ 65 4) → G 54 [some (2, 65, 0), some (2, 1, 0), some (2, 3, 0), some (0, 0, a3), some (0, 0, a4), some (0, 0, a5), o6] [] σ) ∧ (fw_c (σ 65 4) < fw_c 20 → (fw_c a3 ≤ fw_c 8 → sp_step [(2, 1, 0)] (ab_ups σ 65 4 (fw_c ((σ 65 4) + 1))) (fun rv σ2 => G 74 [some (2, 65, 0), some (2, 1, 0), some (2, 3, 0), some (0, 0, a3), some (0, 0, a4), some (0, 0, a5), o6] (rv.toList ++ []) σ2)) ∧ (fw_c 8 < fw_c a3 → G 54 [some (2, 65, 0), some (2, 1, 0), some (2, 3, 0), some (0, 0, a3), some (0, 0, a4), some (0, 0, a5), o6] [] σ))) : G 39 [some (2, 65, 0), some (2, 1, 0), some (2, 3, 0), some (0, 0, a3), some (0, 0, a4), some (0, 0, a5), o6] [] σ := fw_on hG [4, 20, 38, 39, 54, 59, 74, 88, 97, 120, 128, 146, 156] 200 h
theorem fs_seOne8_38 {G : fw_K} {R : fw_KR} (hG : fw_cls st_seOne8 R G) {a5 b0 : Int} {o1 o2 o3 o4 o6 : Option ab_AV} {σ : ab_SG} (h : (0 ≤ fw_c b0 ∧ fw_c b0 ≤ 1) ∧ R (some (0, 0, b0)) σ) : G 38 [some (2, 65, 0), o1, o2, o3, o4, some (0, 0, a5), o6] [(0, 0, b0)] σ := fw_on hG [4, 20, 38, 39, 54, 59, 74, 88, 97, 120, 128, 146, 156] 200 h
theorem fs_seOne8_54 {G : fw_K} {R : fw_KR} (hG : fw_cls st_seOne8 R G) {a5 : Int} {o2 o3 o4 o6 : Option ab_AV} {σ : ab_SG} (h : sp_refuse [(2, 1, 0), (0, 0, 4)] σ (fun rv σ2 => G 59 [some (2, 65, 0), some (2, 1, 0), o2, o3, o4, some (0, 0, a5), o6] (rv.toList ++ []) σ2)) : G 54 [some (2, 65, 0), some (2, 1, 0), o2, o3, o4, some (0, 0, a5), o6] [] σ := fw_on hG [4, 20, 38, 39, 54, 59, 74, 88, 97, 120, 128, 146, 156] 200 h
theorem fs_seOne8_74 {G : fw_K} {R : fw_KR} (hG : fw_cls st_seOne8 R G) {a3 a4 a5 : Int} {o6 : Option ab_AV} {σ : ab_SG} (h : (fw_c a5 = 0 → (fw_c a4 ≠ 0 → (fw_c 6 ≤ fw_c a4 → sp_seMeas [(2, 65, 0), (2, 1, 0), (0, 0, a4)] σ (fun rv σ2 => G 156 [some (2, 65, 0), some (2, 1, 0), some (2, 3, 0), some (0, 0, a3), some (0, 0, a4), some (0, 0, a5), o6] (rv.toList ++ []) σ2)) ∧ (fw_c a4 < fw_c 6 → sp_seNamed [(2, 65, 0), (2, 1, 0), (2, 3, 0), (0, 0, a4)] σ (fun rv σ2 => G 146 [some (2, 65, 0), some (2, 1, 0), some (2, 3, 0), some (0, 0, a3), some (0, 0, a4), some (0, 0, a5), o6] (rv.toList ++ []) σ2))) ∧ (fw_c a4 = 0 → sp_seOne 7 [(2, 65, 0), (2, 1, 0), (2, 3, 0), (0, 0, a3 + 1)] σ (fun rv σ2 => G 120 [some (2, 65, 0), some (2, 1, 0), some (2, 3, 0), some (0, 0, a3), some (0, 0, a4), some (0, 0, a5), o6] (rv.toList ++ []) σ2))) ∧ (fw_c a5 ≠ 0 → sp_seCond 7 [(2, 65, 0), (2, 1, 0), (2, 3, 0), (0, 0, a3 + 1)] σ (fun rv σ2 => G 88 [some (2, 65, 0), some (2, 1, 0), some (2, 3, 0), some (0, 0, a3), some (0, 0, a4), some (0, 0, a5), o6] (rv.toList ++ []) σ2))) : G 74 [some (2, 65, 0), some (2, 1, 0), some (2, 3, 0), some (0, 0, a3), some (0, 0, a4), some (0, 0, a5), o6] [] σ := fw_on hG [4, 20, 38, 39, 54, 59, 74, 88, 97, 120, 128, 146, 156] 200 h
theorem fs_seOne8_59 {G : fw_K} {R : fw_KR} (hG : fw_cls st_seOne8 R G) {a5 b0 : Int} {o1 o2 o3 o4 o6 : Option ab_AV} {σ : ab_SG} (h : (0 ≤ fw_c b0 ∧ fw_c b0 ≤ 1) ∧ R (some (0, 0, b0)) σ) : G 59 [some (2, 65, 0), o1, o2, o3, o4, some (0, 0, a5), o6] [(0, 0, b0)] σ := fw_on hG [4, 20, 38, 39, 54, 59, 74, 88, 97, 120, 128, 146, 156] 200 h
theorem fs_seOne8_156 {G : fw_K} {R : fw_KR} (hG : fw_cls st_seOne8 R G) {a5 b0 : Int} {o1 o2 o3 o4 o6 : Option ab_AV} {σ : ab_SG} (h : (0 ≤ fw_c b0 ∧ fw_c b0 ≤ 1) ∧ R (some (0, 0, b0)) σ) : G 156 [some (2, 65, 0), o1, o2, o3, o4, some (0, 0, a5), o6] [(0, 0, b0)] σ := fw_on hG [4, 20, 38, 39, 54, 59, 74, 88, 97, 120, 128, 146, 156] 200 h
theorem fs_seOne8_146 {G : fw_K} {R : fw_KR} (hG : fw_cls st_seOne8 R G) {a5 b0 : Int} {o1 o2 o3 o4 o6 : Option ab_AV} {σ : ab_SG} (h : G 156 [some (2, 65, 0), o1, o2, o3, o4, some (0, 0, a5), o6] [(0, 0, b0)] σ) : G 146 [some (2, 65, 0), o1, o2, o3, o4, some (0, 0, a5), o6] [(0, 0, b0)] σ := fw_on hG [4, 20, 38, 39, 54, 59, 74, 88, 97, 120, 128, 146, 156] 200 h
theorem fs_seOne8_120 {G : fw_K} {R : fw_KR} (hG : fw_cls st_seOne8 R G) {a5 b0 : Int} {o1 o2 o3 o4 o6 : Option ab_AV} {σ : ab_SG} (h : sp_seAdd [(2, 65, 0), (0, 0, 0), (0, 0, 0)] σ (fun rv σ2 => G 128 [some (2, 65, 0), o1, o2, o3, o4, some (0, 0, a5), some (0, 0, b0)] (rv.toList ++ []) σ2)) : G 120 [some (2, 65, 0), o1, o2, o3, o4, some (0, 0, a5), o6] [(0, 0, b0)] σ := fw_on hG [4, 20, 38, 39, 54, 59, 74, 88, 97, 120, 128, 146, 156] 200 h
theorem fs_seOne8_88 {G : fw_K} {R : fw_KR} (hG : fw_cls st_seOne8 R G) {a5 b0 : Int} {o2 o3 o4 o6 : Option ab_AV} {σ : ab_SG} (h : (fw_c b0 = 0 → (0 ≤ fw_c 0 ∧ fw_c 0 ≤ 1) ∧ R (some (0, 0, 0)) σ) ∧ (fw_c b0 ≠ 0 → sp_takeSign [(2, 1, 0), (0, 0, 41)] σ (fun rv σ2 => G 97 [some (2, 65, 0), some (2, 1, 0), o2, o3, o4, some (0, 0, a5), o6] (rv.toList ++ []) σ2))) : G 88 [some (2, 65, 0), some (2, 1, 0), o2, o3, o4, some (0, 0, a5), o6] [(0, 0, b0)] σ := fw_on hG [4, 20, 38, 39, 54, 59, 74, 88, 97, 120, 128, 146, 156] 200 h
theorem fs_seOne8_128 {G : fw_K} {R : fw_KR} (hG : fw_cls st_seOne8 R G) {a5 a6 : Int} {o1 o2 o3 o4 : Option ab_AV} {σ : ab_SG} (h : (0 ≤ fw_c a6 ∧ fw_c a6 ≤ 1) ∧ R (some (0, 0, a6)) σ) : G 128 [some (2, 65, 0), o1, o2, o3, o4, some (0, 0, a5), some (0, 0, a6)] [] σ := fw_on hG [4, 20, 38, 39, 54, 59, 74, 88, 97, 120, 128, 146, 156] 200 h
theorem fs_seOne8_97 {G : fw_K} {R : fw_KR} (hG : fw_cls st_seOne8 R G) {a5 b0 : Int} {o1 o2 o3 o4 o6 : Option ab_AV} {σ : ab_SG} (h : (fw_c b0 = 0 → (0 ≤ fw_c 0 ∧ fw_c 0 ≤ 1) ∧ R (some (0, 0, 0)) σ) ∧ (fw_c b0 ≠ 0 → (0 ≤ fw_c 1 ∧ fw_c 1 ≤ 1) ∧ R (some (0, 0, 1)) σ)) : G 97 [some (2, 65, 0), o1, o2, o3, o4, some (0, 0, a5), o6] [(0, 0, b0)] σ := fw_on hG [4, 20, 38, 39, 54, 59, 74, 88, 97, 120, 128, 146, 156] 200 h
abbrev fk_seCond8 : List fw_CR := [(52, 3, true, 5, 21, sp_seOne 8), (61, 1, true, 8, 0, sp_isWord), (68, 2, true, 5, 1, sp_seAdd), (72, 0, true, 8, 2, sp_step)]
abbrev st_seCond8 : fw_K → fw_KR → fw_K := fw_st vwCl nn_sh nn_kd fw_kv fw_wc (nn_KI5.map (fun x => x.1)) (nn_KJ5.map (fun x => x.1)) (nn_PF5.map (fun x => x.1)) (nn_PS5.map (fun x => x.1)) fk_seCond8 22 nn_dt174 8 1
theorem fs_seCond8_0 {G : fw_K} {R : fw_KR} (hG : fw_cls st_seCond8 R G) {d : Int} {σ : ab_SG} (h : sp_seOne 8 [(2, 65, 0), (2, 1, 0), (2, 3, 0), (0, 0, d)] σ (fun rv σ2 => G 7 [some (2, 65, 0), some (2, 1, 0), some (2, 3, 0), some (0, 0, d), none, none, none, none] (rv.toList ++ []) σ2)) : G 0 [some (2, 65, 0), some (2, 1, 0), some (2, 3, 0), some (0, 0, d), none, none, none, none] [] σ := fw_on hG [7, 15, 34, 44, 47, 54, 72, 84, 91, 98, 111, 117, 128] 200 h
theorem fs_seCond8_7 {G : fw_K} {R : fw_KR} (hG : fw_cls st_seCond8 R G) {a3 b0 : Int} {o5 o6 o7 : Option ab_AV} {σ : ab_SG} (h : G 15 [some (2, 65, 0), some (2, 1, 0), some (2, 3, 0), some (0, 0, a3), some (0, 0, b0), some (0, 0, 0), some (0, 0, 0), o7] [] σ) : G 7 [some (2, 65, 0), some (2, 1, 0), some (2, 3, 0), some (0, 0, a3), none, o5, o6, o7] [(0, 0, b0)] σ := fw_on hG [7, 15, 34, 44, 47, 54, 72, 84, 91, 98, 111, 117, 128] 200 h
theorem fs_seCond8_15 {G : fw_K} {R : fw_KR} (hG : fw_cls st_seCond8 R G) {a3 a4 a5 a6 : Int} {o7 : Option ab_AV} {σ : ab_SG} (h : (fw_c 20 ≤ fw_c a6 → G 117 [some (2, 65, 0), some (2, 1, 0), some (2, 3, 0), some (0, 0, a3), some (0, 0, a4), some (0, 0, a5), some (0, 0, a6), o7] [] σ) ∧ (fw_c a6 < fw_c 20 → (fw_c a4 = 0 → G 117 [some (2, 65, 0), some (2, 1, 0), some (2, 3, 0), some (0, 0, a3), some (0, 0, a4), some (0, 0, a5), some (0, 0, a6), o7] [] σ) ∧ (fw_c a4 ≠ 0 → sp_isWord [(2, 1, 0), (4, 0, 8)] σ (fun rv σ2 => G 34 [some (2, 65, 0), some (2, 1, 0), some (2, 3, 0), some (0, 0, a3), some (0, 0, a4), some (0, 0, a5), some (0, 0, a6), o7] (rv.toList ++ []) σ2)))) : G 15 [some (2, 65, 0), some (2, 1, 0), some (2, 3, 0), some (0, 0, a3), some (0, 0, a4), some (0, 0, a5), some (0, 0, a6), o7] [] σ := fw_on hG [7, 15, 34, 44, 47, 54, 72, 84, 91, 98, 111, 117, 128] 200 h
theorem fs_seCond8_117 {G : fw_K} {R : fw_KR} (hG : fw_cls st_seCond8 R G) {a4 a5 : Int} {o1 o2 o3 o6 o7 : Option ab_AV} {σ : ab_SG} (h : (fw_c a5 = 0 → G 128 [some (2, 65, 0), o1, o2, o3, some (0, 0, a4), some (0, 0, a5), o6, o7] [] σ) ∧ (fw_c a5 ≠ 0 → sp_seAdd [(2, 65, 0), (0, 0, 2), (0, 0, 0)] σ (fun rv σ2 => G 128 [some (2, 65, 0), o1, o2, o3, some (0, 0, a4), some (0, 0, a5), o6, o7] (rv.toList ++ []) σ2))) : G 117 [some (2, 65, 0), o1, o2, o3, some (0, 0, a4), some (0, 0, a5), o6, o7] [] σ := fw_on hG [7, 15, 34, 44, 47, 54, 72, 84, 91, 98, 111, 117, 128] 200 h
theorem fs_seCond8_34 {G : fw_K} {R : fw_KR} (hG : fw_cls st_seCond8 R G) {a3 a4 a5 a6 b0 : Int} {o7 : Option ab_AV} {σ : ab_SG} (h : (fw_c b0 ≠ 0 → G 47 [some (2, 65, 0), some (2, 1, 0), some (2, 3, 0), some (0, 0, a3), some (0, 0, a4), some (0, 0, a5), some (0, 0, a6), o7] [] σ) ∧ (fw_c b0 = 0 → sp_isWord [(2, 1, 0), (4, 0, 7)] σ (fun rv σ2 => G 44 [some (2, 65, 0), some (2, 1, 0), some (2, 3, 0), some (0, 0, a3), some (0, 0, a4), some (0, 0, a5), some (0, 0, a6), o7] (rv.toList ++ []) σ2))) : G 34 [some (2, 65, 0), some (2, 1, 0), some (2, 3, 0), some (0, 0, a3), some (0, 0, a4), some (0, 0, a5), some (0, 0, a6), o7] [(0, 0, b0)] σ := fw_on hG [7, 15, 34, 44, 47, 54, 72, 84, 91, 98, 111, 117, 128] 200 h
theorem fs_seCond8_128 {G : fw_K} {R : fw_KR} (hG : fw_cls st_seCond8 R G) {a4 : Int} {o1 o2 o3 o5 o6 o7 : Option ab_AV} {σ : ab_SG} (h : (0 ≤ fw_c a4 ∧ fw_c a4 ≤ 1) ∧ R (some (0, 0, a4)) σ) : G 128 [some (2, 65, 0), o1, o2, o3, some (0, 0, a4), o5, o6, o7] [] σ := fw_on hG [7, 15, 34, 44, 47, 54, 72, 84, 91, 98, 111, 117, 128] 200 h
theorem fs_seCond8_47 {G : fw_K} {R : fw_KR} (hG : fw_cls st_seCond8 R G) {a3 a4 a5 a6 : Int} {o7 : Option ab_AV} {σ : ab_SG} (h : sp_isWord [(2, 1, 0), (4, 0, 8)] σ (fun rv σ2 => G 54 [some (2, 65, 0), some (2, 1, 0), some (2, 3, 0), some (0, 0, a3), some (0, 0, a4), some (0, 0, a5), some (0, 0, a6), o7] (rv.toList ++ []) σ2)) : G 47 [some (2, 65, 0), some (2, 1, 0), some (2, 3, 0), some (0, 0, a3), some (0, 0, a4), some (0, 0, a5), some (0, 0, a6), o7] [] σ := fw_on hG [7, 15, 34, 44, 47, 54, 72, 84, 91, 98, 111, 117, 128] 200 h
theorem fs_seCond8_44 {G : fw_K} {R : fw_KR} (hG : fw_cls st_seCond8 R G) {a3 a4 a5 a6 b0 : Int} {o7 : Option ab_AV} {σ : ab_SG} (h : (fw_c b0 = 0 → G 117 [some (2, 65, 0), some (2, 1, 0), some (2, 3, 0), some (0, 0, a3), some (0, 0, a4), some (0, 0, a5), some (0, 0, a6), o7] [] σ) ∧ (fw_c b0 ≠ 0 → G 47 [some (2, 65, 0), some (2, 1, 0), some (2, 3, 0), some (0, 0, a3), some (0, 0, a4), some (0, 0, a5), some (0, 0, a6), o7] [] σ)) : G 44 [some (2, 65, 0), some (2, 1, 0), some (2, 3, 0), some (0, 0, a3), some (0, 0, a4), some (0, 0, a5), some (0, 0, a6), o7] [(0, 0, b0)] σ := fw_on hG [7, 15, 34, 44, 47, 54, 72, 84, 91, 98, 111, 117, 128] 200 h
theorem fs_seCond8_54 {G : fw_K} {R : fw_KR} (hG : fw_cls st_seCond8 R G) {a3 a4 a5 a6 b0 : Int} {o7 : Option ab_AV} {σ : ab_SG} (h : (fw_c b0 ≠ 0 → G 72 [some (2, 65, 0), some (2, 1, 0), some (2, 3, 0), some (0, 0, a3), some (0, 0, a4), some (0, 0, a5), some (0, 0, a6), some (0, 0, b0)] [] σ) ∧ (fw_c b0 = 0 → (fw_c a5 = 0 → G 72 [some (2, 65, 0), some (2, 1, 0), some (2, 3, 0), some (0, 0, a3), some (0, 0, a4), some (0, 0, a5), some (0, 0, a6), some (0, 0, b0)] [] σ) ∧ (fw_c a5 ≠ 0 → sp_seAdd [(2, 65, 0), (0, 0, 2), (0, 0, 0)] σ (fun rv σ2 => G 72 [some (2, 65, 0), some (2, 1, 0), some (2, 3, 0), some (0, 0, a3), some (0, 0, a4), some (0, 0, a5), some (0, 0, a6), some (0, 0, b0)] (rv.toList ++ []) σ2)))) : G 54 [some (2, 65, 0), some (2, 1, 0), some (2, 3, 0), some (0, 0, a3), some (0, 0, a4), some (0, 0, a5), some (0, 0, a6), o7] [(0, 0, b0)] σ := fw_on hG [7, 15, 34, 44, 47, 54, 72, 84, 91, 98, 111, 117, 128] 200 h
theorem fs_seCond8_72 {G : fw_K} {R : fw_KR} (hG : fw_cls st_seCond8 R G) {a3 a4 a5 a6 a7 : Int} {σ : ab_SG} (h : (fw_c a7 ≠ 0 → G 84 [some (2, 65, 0), some (2, 1, 0), some (2, 3, 0), some (0, 0, a3), some (0, 0, a4), some (0, 0, a5), some (0, 0, a6), some (0, 0, a7)] [(0, 0, 0), (0, 0, a5)] σ) ∧ (fw_c a7 = 0 → G 84 [some (2, 65, 0), some (2, 1, 0), some (2, 3, 0), some (0, 0, a3), some (0, 0, a4), some (0, 0, a5), some (0, 0, a6), some (0, 0, a7)] [(0, 0, 1), (0, 0, a5)] σ)) : G 72 [some (2, 65, 0), some (2, 1, 0), some (2, 3, 0), some (0, 0, a3), some (0, 0, a4), some (0, 0, a5), some (0, 0, a6), some (0, 0, a7)] [] σ := fw_on hG [7, 15, 34, 44, 47, 54, 72, 84, 91, 98, 111, 117, 128] 200 h
theorem fs_seCond8_84 {G : fw_K} {R : fw_KR} (hG : fw_cls st_seCond8 R G) {a3 a4 a6 a7 b0 b1 : Int} {o5 : Option ab_AV} {σ : ab_SG} (h : sp_step [(2, 1, 0)] σ (fun rv σ2 => G 91 [some (2, 65, 0), some (2, 1, 0), some (2, 3, 0), some (0, 0, a3), some (0, 0, a4), some (0, 0, fw_op 9 b1 b0), some (0, 0, a6), some (0, 0, a7)] (rv.toList ++ []) σ2)) : G 84 [some (2, 65, 0), some (2, 1, 0), some (2, 3, 0), some (0, 0, a3), some (0, 0, a4), o5, some (0, 0, a6), some (0, 0, a7)] [(0, 0, b0), (0, 0, b1)] σ := fw_on hG [7, 15, 34, 44, 47, 54, 72, 84, 91, 98, 111, 117, 128] 200 h
theorem fs_seCond8_91 {G : fw_K} {R : fw_KR} (hG : fw_cls st_seCond8 R G) {a3 a4 a5 a6 a7 : Int} {σ : ab_SG} (h : sp_seOne 8 [(2, 65, 0), (2, 1, 0), (2, 3, 0), (0, 0, a3)] σ (fun rv σ2 => G 98 [some (2, 65, 0), some (2, 1, 0), some (2, 3, 0), some (0, 0, a3), some (0, 0, a4), some (0, 0, a5), some (0, 0, a6), some (0, 0, a7)] (rv.toList ++ []) σ2)) : G 91 [some (2, 65, 0), some (2, 1, 0), some (2, 3, 0), some (0, 0, a3), some (0, 0, a4), some (0, 0, a5), some (0, 0, a6), some (0, 0, a7)] [] σ := fw_on hG [7, 15, 34, 44, 47, 54, 72, 84, 91, 98, 111, 117, 128] 200 h
theorem fs_seCond8_98 {G : fw_K} {R : fw_KR} (hG : fw_cls st_seCond8 R G) {a3 a4 a5 a6 a7 b0 : Int} {σ : ab_SG} (h : (fw_c a7 = 0 → G 111 [some (2, 65, 0), some (2, 1, 0), some (2, 3, 0), some (0, 0, a3), some (0, 0, b0), some (0, 0, a5), some (0, 0, a6), some (0, 0, a7)] [] σ) ∧ (fw_c a7 ≠ 0 → sp_seAdd [(2, 65, 0), (0, 0, 1), (0, 0, 0)] σ (fun rv σ2 => G 111 [some (2, 65, 0), some (2, 1, 0), some (2, 3, 0), some (0, 0, a3), some (0, 0, b0), some (0, 0, a5), some (0, 0, a6), some (0, 0, a7)] (rv.toList ++ []) σ2))) : G 98 [some (2, 65, 0), some (2, 1, 0), some (2, 3, 0), some (0, 0, a3), some (0, 0, a4), some (0, 0, a5), some (0, 0, a6), some (0, 0, a7)] [(0, 0, b0)] σ := fw_on hG [7, 15, 34, 44, 47, 54, 72, 84, 91, 98, 111, 117, 128] 200 h
theorem fs_seCond8_111 {G : fw_K} {R : fw_KR} (hG : fw_cls st_seCond8 R G) {a3 a4 a5 a6 : Int} {o7 : Option ab_AV} {σ : ab_SG} (h : G 15 [some (2, 65, 0), some (2, 1, 0), some (2, 3, 0), some (0, 0, a3), some (0, 0, a4), some (0, 0, a5), some (0, 0, a6 + 1), o7] [] σ) : G 111 [some (2, 65, 0), some (2, 1, 0), some (2, 3, 0), some (0, 0, a3), some (0, 0, a4), some (0, 0, a5), some (0, 0, a6), o7] [] σ := fw_on hG [7, 15, 34, 44, 47, 54, 72, 84, 91, 98, 111, 117, 128] 200 h
section
variable {l : Launch} {cy : Nat → ClassId} {ad wr cr : Nat → Nat} {D : va_G}
theorem fm_seOne8 (hinj : nn_inj ad) : fw_H l cy ad wr cr D 175 21 (sp_seOne 8) := fw_mk hinj (⟨"NameNotes$Sentence", "readOne", "(LNameNotes$Tape;LNameNotes$Studio;I)Z"⟩, prog_7_method_6_code, 7, (Option.some Jvm.ClassFile.FieldType.boolean), 3, true, 1) rfl rfl nn_KI5_ok nn_KJ5_ok nn_PF5_ok nn_PS5_ok (by decide +kernel) rfl rfl (List.forall_mem_cons.mpr ⟨fw_row nn_PM5_ok (x := 41) (k := 0) (mn := 174) (np := 3) (ob := true) (ci := 5) (⟨"NameNotes$Sentence", "readCond", "(LNameNotes$Tape;LNameNotes$Studio;I)Z"⟩, prog_7_method_5_code, 8, (Option.some Jvm.ClassFile.FieldType.boolean), 3, true, 1) rfl (by decide +kernel) rfl rfl (by decide) (fun _ => ⟨_, _, rfl⟩) (fm_seCond7 hinj), (List.forall_mem_cons.mpr ⟨fw_row nn_PM5_ok (x := 48) (k := 0) (mn := 22) (np := 1) (ob := true) (ci := 8) (⟨"NameNotes$Tape", "refuse", "(I)Z"⟩, prog_10_method_14_code, 2, (Option.some Jvm.ClassFile.FieldType.boolean), 1, true, 1) rfl (by decide +kernel) rfl rfl (by decide) (fun _ => ⟨_, _, rfl⟩) (fm_refuse hinj), (List.forall_mem_cons.mpr ⟨fw_row nn_PM5_ok (x := 52) (k := 0) (mn := 175) (np := 3) (ob := true) (ci := 5) (⟨"NameNotes$Sentence", "readOne", "(LNameNotes$Tape;LNameNotes$Studio;I)Z"⟩, prog_7_method_6_code, 7, (Option.some Jvm.ClassFile.FieldType.boolean), 3, true, 1) rfl (by decide +kernel) rfl rfl (by decide) (fun _ => ⟨_, _, rfl⟩) (fm_seOne7 hinj), (List.forall_mem_cons.mpr ⟨fw_row nn_PM5_ok (x := 68) (k := 0) (mn := 177) (np := 2) (ob := true) (ci := 5) (⟨"NameNotes$Sentence", "addStep", "(II)V"⟩, prog_7_method_10_code, 3, (Option.none : Option Jvm.ClassFile.FieldType), 2, true, 4) rfl (by decide +kernel) rfl rfl (by decide) (fun _ => ⟨_, _, rfl⟩) (fm_seAdd hinj), (List.forall_mem_cons.mpr ⟨fw_row nn_PM5_ok (x := 72) (k := 0) (mn := 10) (np := 0) (ob := true) (ci := 8) (⟨"NameNotes$Tape", "step", "()V"⟩, prog_10_method_5_code, 2, (Option.none : Option Jvm.ClassFile.FieldType), 0, true, 4) rfl (by decide +kernel) rfl rfl (by decide) (fun _ => ⟨_, _, rfl⟩) (fm_step hinj), (List.forall_mem_cons.mpr ⟨fw_row nn_PM5_ok (x := 75) (k := 0) (mn := 176) (np := 1) (ob := false) (ci := 0) (⟨"NameNotes$Sentence", "kindOf", "(LNameNotes$Tape;)I"⟩, prog_7_method_9_code, 1, (Option.some Jvm.ClassFile.FieldType.int), 1, false, 0) rfl (by decide +kernel) rfl rfl (by decide) (fun q => by cases q) (fm_seKind hinj), (List.forall_mem_cons.mpr ⟨fw_row nn_PM5_ok (x := 79) (k := 0) (mn := 40) (np := 1) (ob := true) (ci := 8) (⟨"NameNotes$Tape", "takeSign", "(I)Z"⟩, prog_10_method_13_code, 2, (Option.some Jvm.ClassFile.FieldType.boolean), 1, true, 1) rfl (by decide +kernel) rfl rfl (by decide) (fun _ => ⟨_, _, rfl⟩) (fm_takeSign hinj), (List.forall_mem_cons.mpr ⟨fw_row nn_PM5_ok (x := 82) (k := 0) (mn := 178) (np := 3) (ob := true) (ci := 5) (⟨"NameNotes$Sentence", "readNamed", "(LNameNotes$Tape;LNameNotes$Studio;I)Z"⟩, prog_7_method_7_code, 5, (Option.some Jvm.ClassFile.FieldType.boolean), 3, true, 1) rfl (by decide +kernel) rfl rfl (by decide) (fun _ => ⟨_, _, rfl⟩) (fm_seNamed hinj), (List.forall_mem_cons.mpr ⟨fw_row nn_PM5_ok (x := 85) (k := 0) (mn := 179) (np := 2) (ob := true) (ci := 5) (⟨"NameNotes$Sentence", "readMeasured", "(LNameNotes$Tape;I)Z"⟩, prog_7_method_8_code, 4, (Option.some Jvm.ClassFile.FieldType.boolean), 2, true, 1) rfl (by decide +kernel) rfl rfl (by decide) (fun _ => ⟨_, _, rfl⟩) (fm_seMeas hinj), (fun _ h => absurd h List.not_mem_nil)⟩)⟩)⟩)⟩)⟩)⟩)⟩)⟩)⟩) (fun as σ K h => by
  obtain ⟨A, e, p, o, rfl, hN, E, ⟨h4, ho⟩, h⟩ := h
  have tk1 := (tk_can e p).1
  have m1 : fw_c (-1) = -1 := fw_s (by decide) (by decide)
  have c40 : fw_c 40 = 40 := fw_s (by decide) (by decide)
  have c20 : fw_c 20 = 20 := fw_s (by decide) (by decide)
  have c8 : fw_c 8 = 8 := fw_s (by decide) (by decide)
  have c6 : fw_c 6 = 6 := fw_s (by decide) (by decide)
  have cd : fw_c (9 - ((8 : Nat) : Int)) = 9 - ((8 : Nat) : Int) := fw_s (by decide) (by decide)
  have c4 : fw_c (σ 65 4) = (o : Int) := by rw [h4]; exact fw_s (by omega) (by omega)
  have sv := sk_in e p
  have csk : fw_c (sk_v e p) = sk_v e p := fw_s (by omega) (by omega)
  have n40 : (tk e p).1 = 40 → ¬ (9 ≤ tw e p ∧ tw e p ≤ 16) := fun z y => by
    have := tw_k (e := e) (p := p) (by omega)
    omega
  refine ⟨rfl, fun G hG => fs_seOne8_0 hG ⟨e, p, rfl, E, fs_seOne8_4 hG ?_⟩⟩
  rw [E.kind.2, c40]
  have four : sn_st e p → sn_one A e 8 o p = (4, ev_st e p, o, p) → ∀ a5 : Int, G 54 [some (2, 65, 0), some (2, 1, 0), some (2, 3, 0), some (0, 0, 9 - ((8 : Nat) : Int)), some (0, 0, sk_v e p), some (0, 0, a5), none] [] σ := fun y en a5 => by
    rw [en] at h
    exact fs_seOne8_54 hG ⟨4, rfl, E.rf (x := 4) (v := 0) (K := fun rv σ2 => G 59 [some (2, 65, 0), some (2, 1, 0), some (2, 3, 0), some (0, 0, 9 - ((8 : Nat) : Int)), some (0, 0, sk_v e p), some (0, 0, a5), none] (rv.toList ++ []) σ2) (by decide) (fun σ' a b c => fs_seOne8_59 hG ⟨fw_01, h.1 (show (4 : Int) ≠ 0 by decide) σ' (ev_up a (by decide)) b c⟩)⟩
  have go : sn_st e p → ∀ a5 : Int, ((a5 = 1 ∧ (tk e p).1 = 40) ∨ (a5 = 0 ∧ (tk e p).1 ≠ 40)) → G 39 [some (2, 65, 0), some (2, 1, 0), some (2, 3, 0), some (0, 0, 9 - ((8 : Nat) : Int)), some (0, 0, sk_v e p), some (0, 0, a5), none] [] σ := by
    intro y a5 h5
    refine fs_seOne8_39 hG ?_
    rw [c4, c20, c8, cd, h4]
    refine ⟨fun z => four y ?_ a5, fun z => ⟨fun _ => ⟨rfl, ?_⟩, fun z => absurd z (by decide)⟩⟩
    · rw [show sn_one A e 8 o p = _ from sn_one_s A e 7 o p, if_neg (fun w => w y), if_pos (by omega)]
    have en : sn_one A e 8 o p = _ := sn_one_s A e 7 o p
    rw [if_neg (fun w => w y), if_neg (by omega)] at en
    have ln : sl_one A e 8 o p = _ := sl_one_s A e 7 o p
    have co : fw_c ((o : Int) + 1) = ((o + 1 : Nat) : Int) := fw_s (by omega) (by omega)
    rw [co]
    have E1 : eD (ab_ups σ 65 4 ((o + 1 : Nat) : Int)) e p := E.M (M := [(65, 4)]) okM_one (by decide) (by decide)
    have M1 : ab_okM sN_M σ (ab_ups σ 65 4 ((o + 1 : Nat) : Int)) := fw_okM_ups (fw_okM_refl _ _) (by decide)
    have Q1 : ab_okM [(65, 4)] σ (ab_ups σ 65 4 ((o + 1 : Nat) : Int)) := okM_one
    have f1 : (ab_ups σ 65 4 ((o + 1 : Nat) : Int)) 65 4 = ((o + 1 : Nat) : Int) := ab_ups_eq
    generalize ab_ups σ 65 4 ((o + 1 : Nat) : Int) = σ1 at E1 M1 Q1 f1 ⊢
    refine ⟨E1.st.1, fun σ2 N2 S2 => fs_seOne8_74 hG ?_⟩
    have E2 := E1.st.2 σ2 N2 S2
    have M2 : ab_okM sN_M σ σ2 := ev_tr M1 (ev_up N2 (by decide))
    have p2 : pk σ σ2 [] := pk_l (pk_k (M := [(65, 4)]) Q1 (by decide)) (pk_k N2 (by decide))
    have f2 : σ2 65 4 = ((o + 1 : Nat) : Int) := (mk_row N2 (k := 65) (by decide) 4).trans f1
    have N2' : NC σ2 A := ev_NC M2 (by decide +kernel) hN
    rw [csk, c6]
    -- what comes back is told on
    have p156 : ∀ (r : sn_T) (L : sl_T), sn_one A e 8 o p = r → sl_one A e 8 o p = L → sl_post σ2 r L e (fun rv σ3 => G 156 [some (2, 65, 0), some (2, 1, 0), some (2, 3, 0), some (0, 0, 9 - ((8 : Nat) : Int)), some (0, 0, sk_v e p), some (0, 0, a5), none] (rv.toList ++ []) σ3) := by
      intro r L er el
      rw [er, el] at h
      exact ⟨fun q σ' M a b => fs_seOne8_156 hG ⟨fw_01, h.1 q σ' (ev_tr M2 M) a b⟩, fun q σ' M a b c => fs_seOne8_156 hG ⟨fw_11, h.2 q σ' (ev_tr M2 M) a b (pk_l p2 c)⟩⟩
    refine ⟨fun z5 => ?_, fun z5 => ?_⟩
    · have n4 : (tk e p).1 ≠ 40 := by
        rcases h5 with ⟨q, -⟩ | ⟨-, q⟩
        · rw [q] at z5
          exact absurd (fw_c1.symm.trans z5) (by decide)
        · exact q
      have y2 : 9 ≤ tw e p ∧ tw e p ≤ 16 := y.resolve_left n4
      rw [if_neg n4] at en ln
      refine ⟨fun z6 => ⟨fun z7 => ?_, fun z7 => ?_⟩, fun z6 => ?_⟩
      · rw [if_neg (by omega), if_neg (by omega), if_neg (by omega), if_neg (by omega)] at en ln
        exact ⟨e, tn e p, o + 1, _, rfl, ⟨by omega, by omega⟩, E2, f2, p156 _ _ en ln⟩
      · rw [if_neg (by omega)] at en ln
        have nmd : ∀ (r : sn_T) (L : sl_T), sn_one A e 8 o p = r → sl_one A e 8 o p = L → sl_post σ2 r L e (fun rv σ3 => G 146 [some (2, 65, 0), some (2, 1, 0), some (2, 3, 0), some (0, 0, 9 - ((8 : Nat) : Int)), some (0, 0, sk_v e p), some (0, 0, a5), none] (rv.toList ++ []) σ3) := fun r L er el => ⟨fun q σ' M a b => fs_seOne8_146 hG ((p156 r L er el).1 q σ' M a b), fun q σ' M a b c => fs_seOne8_146 hG ((p156 r L er el).2 q σ' M a b c)⟩
        refine ⟨A, e, tn e p, o + 1, _, rfl, N2', E2, f2, ?_⟩
        by_cases w1 : tw e p = 10
        · rw [if_pos w1] at en ln
          exact Or.inl ⟨by omega, nmd _ _ en ln⟩
        rw [if_neg w1] at en ln
        by_cases w2 : tw e p = 11
        · rw [if_pos w2] at en ln
          exact Or.inr (Or.inl ⟨by omega, nmd _ _ en ln⟩)
        rw [if_neg w2, if_pos (by omega)] at en ln
        exact Or.inr (Or.inr ⟨by omega, nmd _ _ en ln⟩)
      · rw [if_pos (by omega)] at en ln
        rw [en, ln] at h
        refine ⟨A, e, tn e p, o + 1, rfl, N2', E2, ⟨f2, by omega⟩, fun q σ' M a b => fs_seOne8_120 hG ⟨0, 0, rfl, fun σ4 M4 _ => fs_seOne8_128 hG ⟨fw_01, h.1 q σ4 (ev_tr (ev_tr M2 M) (ev_up M4 (by decide))) ((mk_row M4 (k := 1) (by decide) 9).trans a) ((mk_row M4 (k := 1) (by decide) 10).trans b)⟩⟩, fun q σ' M a b c => fs_seOne8_120 hG ⟨0, 0, rfl, fun σ4 M4 P4 => fs_seOne8_128 hG ⟨fw_11, h.2 q σ4 (ev_tr (ev_tr M2 M) (ev_up M4 (by decide))) (a.M M4 (by decide) (by decide)) ((mk_at M4 (k := 65) (j := 4) (by decide)).trans b) (pk_tr (pk_l p2 c) (P4 fw_c0 fw_c0))⟩⟩⟩
    · have n4 : (tk e p).1 = 40 := by
        rcases h5 with ⟨-, q⟩ | ⟨q, -⟩
        · exact q
        · rw [q] at z5
          exact absurd fw_c0 z5
      rw [if_pos n4] at en ln
      generalize hr : sn_cd (sn_one A e 7) e (o + 1) (tn e p) = r at en
      rw [en, ln] at h
      refine ⟨A, e, tn e p, o + 1, rfl, N2', E2, ⟨f2, by omega⟩, ?_⟩
      rw [hr]
      refine ⟨fun q σ' M a b => ?_, fun q σ' M E3 f3 p3 => ?_⟩
      · rw [show sn_br e r = r from if_pos q] at h
        exact fs_seOne8_88 hG ⟨fun _ => ⟨fw_01, h.1 q σ' (ev_tr M2 M) a b⟩, fun z => absurd fw_c0 z⟩
      · have M3 : ab_okM sN_M σ σ' := ev_tr M2 M
        refine fs_seOne8_88 hG ⟨fun z => absurd (fw_c1.symm.trans z) (by decide), fun _ => E3.sg (by decide) (fun w σ4 a b c => ?_) (fun w σ4 M4 E4 => ?_)⟩
        · have eb : sn_br e r = (1, ev_st e r.2.2.2, r.2.2.1, r.2.2.2) := (if_neg (fun z => z q)).trans (if_pos w)
          rw [eb] at h
          exact fs_seOne8_97 hG ⟨fun _ => ⟨fw_01, h.1 (show (1 : Int) ≠ 0 by decide) σ4 (ev_tr M3 (ev_up a (by decide))) b c⟩, fun z => absurd fw_c0 z⟩
        · have eb : sn_br e r = (0, 0, r.2.2.1, tn e r.2.2.2) := (if_neg (fun z => z q)).trans (if_neg (fun z => z w))
          rw [eb] at h
          exact fs_seOne8_97 hG ⟨fun z => absurd (fw_c1.symm.trans z) (by decide), fun _ => ⟨fw_11, h.2 rfl σ4 (ev_tr M3 (ev_up M4 (by decide))) E4 ((mk_row M4 (k := 65) (by decide) 4).trans f3) (pk_l p2 (pk_r p3 (pk_k M4 (by decide))))⟩⟩
  have no : ¬ sn_st e p → G 20 [some (2, 65, 0), some (2, 1, 0), some (2, 3, 0), some (0, 0, 9 - ((8 : Nat) : Int)), some (0, 0, sk_v e p), none, none] [(0, 0, 0)] σ := fun y => by
    have en : sn_one A e 8 o p = (1, ev_st e p, o, p) := (sn_one_s A e 7 o p).trans (if_pos y)
    rw [en] at h
    have ek : sk_v e p = -1 := by
      have : ¬ (9 ≤ tw e p ∧ tw e p ≤ 16) := fun z => y (Or.inr z)
      omega
    refine fs_seOne8_20 hG ⟨fun z => absurd (by rw [ek]) z, fun _ => ⟨fun z => absurd fw_c0 z, fun _ => ⟨1, rfl, E.rf (x := 1) (v := 0) (K := fun rv σ2 => G 38 [some (2, 65, 0), some (2, 1, 0), some (2, 3, 0), some (0, 0, 9 - ((8 : Nat) : Int)), some (0, 0, sk_v e p), some (0, 0, 0), none] (rv.toList ++ []) σ2) (by decide) (fun σ' a b c => fs_seOne8_38 hG ⟨fw_01, h.1 (show (1 : Int) ≠ 0 by decide) σ' (ev_up a (by decide)) b c⟩)⟩⟩⟩
  refine ⟨fun z => ?_, fun z => ?_⟩
  · by_cases y : sn_st e p
    · have y2 : 9 ≤ tw e p ∧ tw e p ≤ 16 := y.resolve_left z
      exact fs_seOne8_20 hG ⟨fun _ => go y 0 (Or.inr ⟨rfl, z⟩), fun u => absurd u (by rw [csk, m1]; omega)⟩
    · exact no y
  · have y : sn_st e p := Or.inl z
    have ek : sk_v e p = -1 := by
      have := n40 z
      omega
    exact fs_seOne8_20 hG ⟨fun u => absurd (by rw [ek]) u, fun _ => ⟨fun _ => go y 1 (Or.inl ⟨rfl, z⟩), fun u => absurd (fw_c1.symm.trans u) (by decide)⟩⟩)
theorem fm_seCond8 (hinj : nn_inj ad) : fw_H l cy ad wr cr D 174 22 (sp_seCond 8) := fw_mk hinj (⟨"NameNotes$Sentence", "readCond", "(LNameNotes$Tape;LNameNotes$Studio;I)Z"⟩, prog_7_method_5_code, 8, (Option.some Jvm.ClassFile.FieldType.boolean), 3, true, 1) rfl rfl nn_KI5_ok nn_KJ5_ok nn_PF5_ok nn_PS5_ok (by decide +kernel) rfl rfl (List.forall_mem_cons.mpr ⟨fw_row nn_PM5_ok (x := 52) (k := 0) (mn := 175) (np := 3) (ob := true) (ci := 5) (⟨"NameNotes$Sentence", "readOne", "(LNameNotes$Tape;LNameNotes$Studio;I)Z"⟩, prog_7_method_6_code, 7, (Option.some Jvm.ClassFile.FieldType.boolean), 3, true, 1) rfl (by decide +kernel) rfl rfl (by decide) (fun _ => ⟨_, _, rfl⟩) (fm_seOne8 hinj), (List.forall_mem_cons.mpr ⟨fw_row nn_PM5_ok (x := 61) (k := 0) (mn := 20) (np := 1) (ob := true) (ci := 8) (⟨"NameNotes$Tape", "isWord", "(LNameNotes$Word;)Z"⟩, prog_10_method_10_code, 2, (Option.some Jvm.ClassFile.FieldType.boolean), 1, true, 1) rfl (by decide +kernel) rfl rfl (by decide) (fun _ => ⟨_, _, rfl⟩) (fm_isWord hinj), (List.forall_mem_cons.mpr ⟨fw_row nn_PM5_ok (x := 68) (k := 0) (mn := 177) (np := 2) (ob := true) (ci := 5) (⟨"NameNotes$Sentence", "addStep", "(II)V"⟩, prog_7_method_10_code, 3, (Option.none : Option Jvm.ClassFile.FieldType), 2, true, 4) rfl (by decide +kernel) rfl rfl (by decide) (fun _ => ⟨_, _, rfl⟩) (fm_seAdd hinj), (List.forall_mem_cons.mpr ⟨fw_row nn_PM5_ok (x := 72) (k := 0) (mn := 10) (np := 0) (ob := true) (ci := 8) (⟨"NameNotes$Tape", "step", "()V"⟩, prog_10_method_5_code, 2, (Option.none : Option Jvm.ClassFile.FieldType), 0, true, 4) rfl (by decide +kernel) rfl rfl (by decide) (fun _ => ⟨_, _, rfl⟩) (fm_step hinj), (fun _ h => absurd h List.not_mem_nil)⟩)⟩)⟩)⟩) (fun as σ K h => by
  obtain ⟨A, e, p, o, rfl, hN, E, ⟨h4, ho⟩, h⟩ := h
  have c20 : fw_c 20 = 20 := fw_s (by decide) (by decide)
  have c2 : fw_c 2 = 2 := fw_s (by decide) (by decide)
  have og := sn_one_gr A e 8
  refine ⟨rfl, fun G hG => ?_⟩
  have ex0 : ∀ (τ : ab_SG) (a5 a6 : Int) (o7 : Option ab_AV), (∀ τ' : ab_SG, ab_okM se_M τ τ' → K (some (0, 0, 0)) τ') → G 15 [some (2, 65, 0), some (2, 1, 0), some (2, 3, 0), some (0, 0, 9 - ((8 : Nat) : Int)), some (0, 0, 0), some (0, 0, a5), some (0, 0, a6), o7] [] τ := by
    intro τ a5 a6 o7 k
    have g : G 117 [some (2, 65, 0), some (2, 1, 0), some (2, 3, 0), some (0, 0, 9 - ((8 : Nat) : Int)), some (0, 0, 0), some (0, 0, a5), some (0, 0, a6), o7] [] τ := fs_seCond8_117 hG ⟨fun _ => fs_seCond8_128 hG ⟨fw_01, k τ (fw_okM_refl _ _)⟩, fun _ => ⟨_, _, rfl, fun τ' M _ => fs_seCond8_128 hG ⟨fw_01, k τ' M⟩⟩⟩
    exact fs_seCond8_15 hG ⟨fun _ => g, fun _ => ⟨fun _ => g, fun z => absurd fw_c0 z⟩⟩
  have ex1 : ∀ (τ : ab_SG) (w : Bool) (a6 : Int) (o7 : Option ab_AV), (∀ τ' : ab_SG, ab_okM se_M τ τ' → pk τ τ' (fl w) → K (some (0, 0, 1)) τ') → G 117 [some (2, 65, 0), some (2, 1, 0), some (2, 3, 0), some (0, 0, 9 - ((8 : Nat) : Int)), some (0, 0, 1), some (0, 0, bI w), some (0, 0, a6), o7] [] τ := fun τ w a6 o7 k =>
    fs_seCond8_117 hG ⟨fun z => fs_seCond8_128 hG ⟨fw_11, k τ (fw_okM_refl _ _) (by rw [bI_0 z]; exact pk_0 τ)⟩, fun z => ⟨_, _, rfl, fun τ' M P => fs_seCond8_128 hG ⟨fw_11, k τ' M (by rw [bI_1 z]; exact P c2 fw_c0)⟩⟩⟩
  have add : ∀ {τ τ' : ab_SG}, ab_okM se_M τ τ' → ab_okM sN_M τ τ' := fun M => ev_up M (by decide)
  have loop : ∀ (g i o1 p1 : Nat) (τ : ab_SG) (w : Bool) (L1 : sl_T) (o7 : Option ab_AV), i + g = 20 → i + 1 ≤ o1 → o1 ≤ 20 → ab_okM sN_M σ τ → eD τ e p1 → τ 65 4 = (o1 : Int) → pk σ τ L1 → sn_cd (sn_one A e 8) e o p = sn_lp (sn_one A e 8) e g o1 p1 → sl_cd (sn_one A e 8) (sl_one A e 8) e o p = L1 ++ sl_lp (sn_one A e 8) (sl_one A e 8) e g w o1 p1 → G 15 [some (2, 65, 0), some (2, 1, 0), some (2, 3, 0), some (0, 0, 9 - ((8 : Nat) : Int)), some (0, 0, 1), some (0, 0, bI w), some (0, 0, (i : Int)), o7] [] τ := by
    intro g
    induction g with
    | zero =>
      intro i o1 p1 τ w L1 o7 hi h1 h2 _ _ _ _ _ _
      omega
    | succ g ih =>
      intro i o1 p1 τ w L1 o7 hi h1 h2 M E1 f1 hp hr hL
      have ci : fw_c (i : Int) = (i : Int) := fw_s (by omega) (by omega)
      rw [sn_lps] at hr
      rw [sl_lps] at hL
      have iw : ∀ (τ1 : ab_SG) (x : Int) (Q : fw_KR), eD τ1 e p1 → 0 ≤ x → x ≤ 16 → (tw e p1 = x → Q (some (0, 0, 1)) τ1) → (tw e p1 ≠ x → Q (some (0, 0, 0)) τ1) → sp_isWord [(2, 1, 0), (4, 0, x)] τ1 Q := by
        intro τ1 x Q E2 h1 h2 a b
        have kw := E2.kw
        refine ⟨x, rfl, ⟨kw.2.1, kw.2.2, by omega, h2⟩, ?_⟩
        by_cases c : tw e p1 = x
        · rw [fw_bo_t ((E2.isw h1).mpr c)]
          exact a c
        · rw [fw_bo_f (fun z => c ((E2.isw h1).mp z))]
          exact b c
      have u0 : ∀ {X : Prop}, fw_c 0 ≠ 0 → X := fun z => absurd fw_c0 z
      have u1 : ∀ {X : Prop}, fw_c 1 = 0 → X := fun z => absurd (fw_c1.symm.trans z) (by decide)
      have n1 : fw_c 1 ≠ 0 := fun z => u1 z
      have stop : ¬ (tw e p1 = 8 ∨ tw e p1 = 7) → G 117 [some (2, 65, 0), some (2, 1, 0), some (2, 3, 0), some (0, 0, 9 - ((8 : Nat) : Int)), some (0, 0, 1), some (0, 0, bI w), some (0, 0, (i : Int)), o7] [] τ := fun c => by
        rw [if_neg c] at hr
        rw [if_neg (fun z => c (Or.inl z)), if_neg (fun z => c (Or.inr z))] at hL
        rw [hr, hL] at h
        exact ex1 τ w _ o7 (fun τ' M' P' => h.2 rfl τ' (ev_tr M (add M')) (E1.M M' (by decide) (by decide)) ((mk_at M' (k := 65) (j := 4) (by decide)).trans f1) (pk_tr hp P'))
      have g84 : (tw e p1 = 8 ∨ tw e p1 = 7) → ∀ (τ1 : ab_SG) (a7 b0 : Int) (w2 : Bool) (L2 T : sl_T), fw_op 9 (bI w) b0 = bI w2 → ab_okM sN_M σ τ1 → eD τ1 e p1 → τ1 65 4 = (o1 : Int) → pk σ τ1 L2 → ((fw_c a7 = 0 ∧ T = []) ∨ (fw_c a7 ≠ 0 ∧ T = [(1, 0)])) → sl_cd (sn_one A e 8) (sl_one A e 8) e o p = L2 ++ (sl_one A e 8 o1 (tn e p1) ++ (T ++ sl_lp (sn_one A e 8) (sl_one A e 8) e g w2 (sn_one A e 8 o1 (tn e p1)).2.2.1 (sn_one A e 8 o1 (tn e p1)).2.2.2)) → G 84 [some (2, 65, 0), some (2, 1, 0), some (2, 3, 0), some (0, 0, 9 - ((8 : Nat) : Int)), some (0, 0, 1), some (0, 0, bI w), some (0, 0, (i : Int)), some (0, 0, a7)] [(0, 0, b0), (0, 0, bI w)] τ1 := by
        intro c τ1 a7 b0 w2 L2 T hb M1 E2 f2 hp2 hT hL2
        refine fs_seCond8_84 hG ⟨rfl, E2.st.1, fun τ2 N2 S2 => fs_seCond8_91 hG ?_⟩
        rw [hb]
        have E3 := E2.st.2 τ2 N2 S2
        have M2 : ab_okM sN_M σ τ2 := ev_tr M1 (ev_up N2 (by decide))
        have p2 : pk σ τ2 L2 := pk_r hp2 (pk_k N2 (by decide))
        rw [if_pos c] at hr
        refine ⟨A, e, tn e p1, o1, rfl, ev_NC M2 (by decide +kernel) hN, E3, ⟨(mk_row N2 (k := 65) (by decide) 4).trans f2, h2⟩, fun q σ' M3 a b => ?_, fun q σ' M3 E4 f4 p4 => ?_⟩
        · rw [if_pos q] at hr
          rw [hr] at h
          have k : ∀ τ' : ab_SG, ab_okM se_M σ' τ' → K (some (0, 0, 0)) τ' := fun τ' M' => h.1 q τ' (ev_tr (ev_tr M2 M3) (add M')) ((mk_row M' (k := 1) (by decide) 9).trans a) ((mk_row M' (k := 1) (by decide) 10).trans b)
          exact fs_seCond8_98 hG ⟨fun _ => fs_seCond8_111 hG (ex0 σ' _ _ _ k), fun _ => ⟨_, _, rfl, fun τ' M' _ => fs_seCond8_111 hG (ex0 τ' _ _ _ (fun τ'' M'' => k τ'' (ev_tr M' M'')))⟩⟩
        · rw [if_neg (fun z => z q)] at hr
          have gr := og o1 (tn e p1) h2 q
          have p5 : pk σ σ' (L2 ++ sl_one A e 8 o1 (tn e p1)) := pk_tr p2 p4
          have nx : ∀ τ' : ab_SG, ab_okM sN_M σ τ' → eD τ' e (sn_one A e 8 o1 (tn e p1)).2.2.2 → τ' 65 4 = ((sn_one A e 8 o1 (tn e p1)).2.2.1 : Int) → pk σ τ' (L2 ++ sl_one A e 8 o1 (tn e p1) ++ T) → G 111 [some (2, 65, 0), some (2, 1, 0), some (2, 3, 0), some (0, 0, 9 - ((8 : Nat) : Int)), some (0, 0, 1), some (0, 0, bI w2), some (0, 0, (i : Int)), some (0, 0, a7)] [] τ' := fun τ' M' E' f' p' => fs_seCond8_111 hG (by
            have g := ih (i + 1) _ _ τ' w2 _ (some (0, 0, a7)) (by omega) (by omega) gr.2 M' E' f' p' hr (by rw [hL2, List.append_assoc, List.append_assoc])
            rw [show ((i + 1 : Nat) : Int) = (i : Int) + 1 from rfl] at g
            exact g)
          rcases hT with ⟨z, eT⟩ | ⟨z, eT⟩
          · exact fs_seCond8_98 hG ⟨fun _ => nx σ' (ev_tr M2 M3) E4 f4 (by rw [eT, List.append_nil]; exact p5), fun y => absurd z y⟩
          · exact fs_seCond8_98 hG ⟨fun y => absurd y z, fun _ => ⟨_, _, rfl, fun τ' M' P' => nx τ' (ev_tr (ev_tr M2 M3) (add M')) (E4.M M' (by decide) (by decide)) ((mk_at M' (k := 65) (j := 4) (by decide)).trans f4) (by rw [eT]; exact pk_tr p5 (P' fw_c1 fw_c0))⟩⟩
      -- AND
      have ga : tw e p1 = 8 → G 47 [some (2, 65, 0), some (2, 1, 0), some (2, 3, 0), some (0, 0, 9 - ((8 : Nat) : Int)), some (0, 0, 1), some (0, 0, bI w), some (0, 0, (i : Int)), o7] [] τ := fun c8 => by
        rw [if_pos c8] at hL
        exact fs_seCond8_47 hG (iw τ 8 _ E1 (by decide) (by decide) (fun _ => fs_seCond8_54 hG ⟨fun _ => fs_seCond8_72 hG ⟨fun _ => g84 (Or.inl c8) τ 1 0 w L1 [(1, 0)] (bI_a w) M E1 f1 hp (Or.inr ⟨n1, rfl⟩) hL, u1⟩, u1⟩) (fun z => absurd c8 z))
      -- OR
      have gb : tw e p1 ≠ 8 → tw e p1 = 7 → ∀ τ1 : ab_SG, ab_okM sN_M σ τ1 → eD τ1 e p1 → τ1 65 4 = (o1 : Int) → pk σ τ1 (L1 ++ fl w) → G 72 [some (2, 65, 0), some (2, 1, 0), some (2, 3, 0), some (0, 0, 9 - ((8 : Nat) : Int)), some (0, 0, 1), some (0, 0, bI w), some (0, 0, (i : Int)), some (0, 0, 0)] [] τ1 := fun c8 c7 τ1 M1 E2 f2 hp2 => by
        rw [if_neg c8, if_pos c7] at hL
        exact fs_seCond8_72 hG ⟨u0, fun _ => g84 (Or.inr c7) τ1 0 1 true (L1 ++ fl w) [] (bI_o w) M1 E2 f2 hp2 (Or.inl ⟨fw_c0, rfl⟩) (by rw [List.append_assoc]; exact hL)⟩
      have go : tw e p1 ≠ 8 → tw e p1 = 7 → G 47 [some (2, 65, 0), some (2, 1, 0), some (2, 3, 0), some (0, 0, 9 - ((8 : Nat) : Int)), some (0, 0, 1), some (0, 0, bI w), some (0, 0, (i : Int)), o7] [] τ := fun c8 c7 =>
        fs_seCond8_47 hG (iw τ 8 _ E1 (by decide) (by decide) (fun z => absurd z c8) (fun _ => fs_seCond8_54 hG ⟨u0, fun _ => ⟨fun z => gb c8 c7 τ M E1 f1 (by rw [bI_0 z]; exact pk_tr hp (show pk τ τ (fl false) from pk_0 τ)), fun z => ⟨_, _, rfl, fun τ' M' P' => gb c8 c7 τ' (ev_tr M (add M')) (E1.M M' (by decide) (by decide)) ((mk_at M' (k := 65) (j := 4) (by decide)).trans f1) (by rw [bI_1 z]; exact pk_tr hp (P' c2 fw_c0))⟩⟩⟩))
      refine fs_seCond8_15 hG ⟨fun z => absurd z (by rw [c20, ci]; omega), fun _ => ⟨u1, fun _ => iw τ 8 _ E1 (by decide) (by decide) (fun c => fs_seCond8_34 hG ⟨fun _ => ga c, u1⟩) (fun c8 => fs_seCond8_34 hG ⟨u0, fun _ => iw τ 7 _ E1 (by decide) (by decide) (fun c => fs_seCond8_44 hG ⟨u1, fun _ => go c8 c⟩) (fun c7 => fs_seCond8_44 hG ⟨fun _ => stop (fun z => z.elim c8 c7), u0⟩)⟩)⟩⟩
  exact fs_seCond8_0 hG ⟨A, e, p, o, rfl, hN, E, ⟨h4, ho⟩, fun q σ' M a b => fs_seCond8_7 hG (ex0 σ' 0 0 none (fun τ' M' => by
    have en : sn_cd (sn_one A e 8) e o p = sn_one A e 8 o p := if_pos q
    rw [en] at h
    exact h.1 q τ' (ev_tr M (add M')) ((mk_row M' (k := 1) (by decide) 9).trans a) ((mk_row M' (k := 1) (by decide) 10).trans b))), fun q σ' M E' f' p' => fs_seCond8_7 hG (by
    have gr := og o p ho q
    exact loop 20 0 _ _ σ' false _ none rfl (by omega) gr.2 M E' f' p' (if_neg (fun z => z q)) rfl)⟩)
end
abbrev fk_seRead : List fw_CR := [(32, 0, true, 5, 0, sp_seClear), (35, 1, true, 8, 3, sp_opn), (41, 3, true, 5, 22, sp_seCond 8), (48, 1, true, 8, 0, sp_refuse)]
abbrev st_seRead : fw_K → fw_KR → fw_K := fw_st vwCl nn_sh nn_kd fw_kv fw_wc (nn_KI5.map (fun x => x.1)) (nn_KJ5.map (fun x => x.1)) (nn_PF5.map (fun x => x.1)) (nn_PS5.map (fun x => x.1)) fk_seRead 23 nn_dt173 3 1
theorem fs_seRead_0 {G : fw_K} {R : fw_KR} (hG : fw_cls st_seRead R G) {σ : ab_SG} (h : sp_seClear [(2, 65, 0)] σ (fun rv σ2 => G 4 [some (2, 65, 0), some (2, 1, 0), some (2, 3, 0)] (rv.toList ++ []) σ2)) : G 0 [some (2, 65, 0), some (2, 1, 0), some (2, 3, 0)] [] σ := fw_on hG [4, 11, 18, 35] 200 h
theorem fs_seRead_4 {G : fw_K} {R : fw_KR} (hG : fw_cls st_seRead R G) {σ : ab_SG} (h : sp_opn [(2, 1, 0), (0, 0, 200)] σ (fun rv σ2 => G 11 [some (2, 65, 0), some (2, 1, 0), some (2, 3, 0)] (rv.toList ++ []) σ2)) : G 4 [some (2, 65, 0), some (2, 1, 0), some (2, 3, 0)] [] σ := fw_on hG [4, 11, 18, 35] 200 h
theorem fs_seRead_11 {G : fw_K} {R : fw_KR} (hG : fw_cls st_seRead R G) {σ : ab_SG} (h : sp_seCond 8 [(2, 65, 0), (2, 1, 0), (2, 3, 0), (0, 0, 1)] σ (fun rv σ2 => G 18 [some (2, 65, 0), some (2, 1, 0), some (2, 3, 0)] (rv.toList ++ []) σ2)) : G 11 [some (2, 65, 0), some (2, 1, 0), some (2, 3, 0)] [] σ := fw_on hG [4, 11, 18, 35] 200 h
theorem fs_seRead_18 {G : fw_K} {R : fw_KR} (hG : fw_cls st_seRead R G) {b0 : Int} {o2 : Option ab_AV} {σ : ab_SG} (h : (fw_c b0 ≠ 0 → (fw_c (σ 1 5) = 0 → (0 ≤ fw_c 1 ∧ fw_c 1 ≤ 1) ∧ R (some (0, 0, 1)) σ) ∧ (fw_c (σ 1 5) ≠ 0 → sp_refuse [(2, 1, 0), (0, 0, 1)] σ (fun rv σ2 => G 35 [some (2, 65, 0), some (2, 1, 0), o2] (rv.toList ++ []) σ2))) ∧ (fw_c b0 = 0 → (0 ≤ fw_c 0 ∧ fw_c 0 ≤ 1) ∧ R (some (0, 0, 0)) σ)) : G 18 [some (2, 65, 0), some (2, 1, 0), o2] [(0, 0, b0)] σ := fw_on hG [4, 11, 18, 35] 200 h
theorem fs_seRead_35 {G : fw_K} {R : fw_KR} (hG : fw_cls st_seRead R G) {b0 : Int} {o1 o2 : Option ab_AV} {σ : ab_SG} (h : (fw_c b0 = 0 → (0 ≤ fw_c 0 ∧ fw_c 0 ≤ 1) ∧ R (some (0, 0, 0)) σ) ∧ (fw_c b0 ≠ 0 → (0 ≤ fw_c 1 ∧ fw_c 1 ≤ 1) ∧ R (some (0, 0, 1)) σ)) : G 35 [some (2, 65, 0), o1, o2] [(0, 0, b0)] σ := fw_on hG [4, 11, 18, 35] 200 h
abbrev fk_cp_66_15 : List fw_CR := []
abbrev st_cp_66_15 : fw_K → fw_KR → fw_K := fw_st vwCl nn_sh nn_kd fw_kv fw_wc (nn_KI1.map (fun x => x.1)) (nn_KJ1.map (fun x => x.1)) (nn_PF1.map (fun x => x.1)) (nn_PS1.map (fun x => x.1)) fk_cp_66_15 0 nn_dt50 3 4
theorem fs_cp_66_15_0 {G : fw_K} {R : fw_KR} (hG : fw_cls st_cp_66_15 R G) {σ : ab_SG} (h : G 2 [some (2, 66, 0), some (2, 15, 0), some (0, 0, 0)] [] σ) : G 0 [some (2, 66, 0), some (2, 15, 0), none] [] σ := fw_on hG [2] 200 h
theorem fs_cp_66_15_2 {G : fw_K} {R : fw_KR} (hG : fw_cls st_cp_66_15 R G) {a2 : Int} {σ : ab_SG} (h : (fw_c ((64 : Nat) : Int) ≤ fw_c a2 → R none σ) ∧ (fw_c a2 < fw_c ((64 : Nat) : Int) → (fw_c ((64 : Nat) : Int) ≤ fw_c a2 → R none σ) ∧ (fw_c a2 < fw_c ((64 : Nat) : Int) → (0 ≤ fw_c a2 ∧ fw_c a2 < ((64 : Nat) : Int)) ∧ ((0 ≤ fw_c a2 ∧ fw_c a2 < ((64 : Nat) : Int)) ∧ True ∧ (G 2 [some (2, 66, 0), some (2, 15, 0), some (0, 0, a2 + 1)] [] (ab_ups σ 15 (fw_c a2).toNat (fw_c (σ 66 (fw_c a2).toNat)))))))) : G 2 [some (2, 66, 0), some (2, 15, 0), some (0, 0, a2)] [] σ := fw_on hG [2] 200 h
abbrev fk_cp_67_16 : List fw_CR := []
abbrev st_cp_67_16 : fw_K → fw_KR → fw_K := fw_st vwCl nn_sh nn_kd fw_kv fw_wc (nn_KI1.map (fun x => x.1)) (nn_KJ1.map (fun x => x.1)) (nn_PF1.map (fun x => x.1)) (nn_PS1.map (fun x => x.1)) fk_cp_67_16 0 nn_dt50 3 4
theorem fs_cp_67_16_0 {G : fw_K} {R : fw_KR} (hG : fw_cls st_cp_67_16 R G) {σ : ab_SG} (h : G 2 [some (2, 67, 0), some (2, 16, 0), some (0, 0, 0)] [] σ) : G 0 [some (2, 67, 0), some (2, 16, 0), none] [] σ := fw_on hG [2] 200 h
theorem fs_cp_67_16_2 {G : fw_K} {R : fw_KR} (hG : fw_cls st_cp_67_16 R G) {a2 : Int} {σ : ab_SG} (h : (fw_c ((64 : Nat) : Int) ≤ fw_c a2 → R none σ) ∧ (fw_c a2 < fw_c ((64 : Nat) : Int) → (fw_c ((64 : Nat) : Int) ≤ fw_c a2 → R none σ) ∧ (fw_c a2 < fw_c ((64 : Nat) : Int) → (0 ≤ fw_c a2 ∧ fw_c a2 < ((64 : Nat) : Int)) ∧ ((0 ≤ fw_c a2 ∧ fw_c a2 < ((64 : Nat) : Int)) ∧ True ∧ (G 2 [some (2, 67, 0), some (2, 16, 0), some (0, 0, a2 + 1)] [] (ab_ups σ 16 (fw_c a2).toNat (fw_c (σ 67 (fw_c a2).toNat)))))))) : G 2 [some (2, 67, 0), some (2, 16, 0), some (0, 0, a2)] [] σ := fw_on hG [2] 200 h
abbrev fk_seCopy : List fw_CR := [(28, 2, false, 0, 0, sp_cpq)]
abbrev st_seCopy : fw_K → fw_KR → fw_K := fw_st vwCl nn_sh nn_kd fw_kv fw_wc (nn_KI5.map (fun x => x.1)) (nn_KJ5.map (fun x => x.1)) (nn_PF5.map (fun x => x.1)) (nn_PS5.map (fun x => x.1)) fk_seCopy 1 nn_dt52 2 4
theorem fs_seCopy_0 {G : fw_K} {R : fw_KR} (hG : fw_cls st_seCopy R G) {σ : ab_SG} (h : sp_cpq [(2, 66, 0), (2, 15, 0)] σ (fun rv σ2 => G 11 [some (2, 14, 0), some (2, 65, 0)] (rv.toList ++ []) σ2)) : G 0 [some (2, 14, 0), some (2, 65, 0)] [] σ := fw_on hG [11, 22] 200 h
theorem fs_seCopy_11 {G : fw_K} {R : fw_KR} (hG : fw_cls st_seCopy R G) {σ : ab_SG} (h : sp_cpq [(2, 67, 0), (2, 16, 0)] σ (fun rv σ2 => G 22 [some (2, 14, 0), some (2, 65, 0)] (rv.toList ++ []) σ2)) : G 11 [some (2, 14, 0), some (2, 65, 0)] [] σ := fw_on hG [11, 22] 200 h
theorem fs_seCopy_22 {G : fw_K} {R : fw_KR} (hG : fw_cls st_seCopy R G) {σ : ab_SG} (h : R none (ab_ups (ab_ups σ 14 3 (fw_c (σ 65 3))) 14 4 (fw_c (σ 65 4)))) : G 22 [some (2, 14, 0), some (2, 65, 0)] [] σ := fw_on hG [11, 22] 200 h
abbrev fk_sentence : List fw_CR := [(433, 2, true, 5, 23, sp_seRead), (437, 1, true, 5, 1, sp_seCopy)]
abbrev st_sentence : fw_K → fw_KR → fw_K := fw_st vwCl nn_sh nn_kd fw_kv fw_wc (nn_KI1.map (fun x => x.1)) (nn_KJ1.map (fun x => x.1)) (nn_PF1.map (fun x => x.1)) (nn_PS1.map (fun x => x.1)) fk_sentence 24 nn_dt172 2 0
theorem fs_sentence_0 {G : fw_K} {R : fw_KR} (hG : fw_cls st_sentence R G) {σ : ab_SG} (h : sp_seRead [(2, 65, 0), (2, 1, 0), (2, 3, 0)] σ (fun rv σ2 => G 15 [some (2, 0, 0), none] (rv.toList ++ []) σ2)) : G 0 [some (2, 0, 0), none] [] σ := fw_on hG [15, 52] 200 h
theorem fs_sentence_15 {G : fw_K} {R : fw_KR} (hG : fw_cls st_sentence R G) {b0 : Int} {σ : ab_SG} (h : (fw_c b0 ≠ 0 → sp_seCopy [(2, 14, 0), (2, 65, 0)] (ab_ups σ 1 1 (fw_c 0)) (fun rv σ2 => G 52 [some (2, 0, 0), some (0, 0, b0)] (rv.toList ++ []) σ2)) ∧ (fw_c b0 = 0 → R (some (0, 0, (-1) - (σ 1 10))) (ab_ups σ 1 1 (fw_c 0)))) : G 15 [some (2, 0, 0), none] [(0, 0, b0)] σ := fw_on hG [15, 52] 200 h
theorem fs_sentence_52 {G : fw_K} {R : fw_KR} (hG : fw_cls st_sentence R G) {a1 : Int} {σ : ab_SG} (h : R (some (0, 0, σ 65 4)) σ) : G 52 [some (2, 0, 0), some (0, 0, a1)] [] σ := fw_on hG [15, 52] 200 h
section
variable {l : Launch} {cy : Nat → ClassId} {ad wr cr : Nat → Nat} {D : va_G}
theorem fm_seRead (hinj : nn_inj ad) : fw_H l cy ad wr cr D 173 23 sp_seRead := fw_mk hinj (⟨"NameNotes$Sentence", "read", "(LNameNotes$Tape;LNameNotes$Studio;)Z"⟩, prog_7_method_4_code, 3, (Option.some Jvm.ClassFile.FieldType.boolean), 2, true, 1) rfl rfl nn_KI5_ok nn_KJ5_ok nn_PF5_ok nn_PS5_ok (by decide +kernel) rfl rfl (List.forall_mem_cons.mpr ⟨fw_row nn_PM5_ok (x := 32) (k := 0) (mn := 8) (np := 0) (ob := true) (ci := 5) (⟨"NameNotes$Sentence", "clear", "()V"⟩, prog_7_method_2_code, 1, (Option.none : Option Jvm.ClassFile.FieldType), 0, true, 4) rfl (by decide +kernel) rfl rfl (by decide) (fun _ => ⟨_, _, rfl⟩) (fm_seClear hinj), (List.forall_mem_cons.mpr ⟨fw_row nn_PM5_ok (x := 35) (k := 0) (mn := 9) (np := 1) (ob := true) (ci := 8) (⟨"NameNotes$Tape", "open", "(I)V"⟩, prog_10_method_4_code, 2, (Option.none : Option Jvm.ClassFile.FieldType), 1, true, 4) rfl (by decide +kernel) rfl rfl (by decide) (fun _ => ⟨_, _, rfl⟩) (fm_opn hinj), (List.forall_mem_cons.mpr ⟨fw_row nn_PM5_ok (x := 41) (k := 0) (mn := 174) (np := 3) (ob := true) (ci := 5) (⟨"NameNotes$Sentence", "readCond", "(LNameNotes$Tape;LNameNotes$Studio;I)Z"⟩, prog_7_method_5_code, 8, (Option.some Jvm.ClassFile.FieldType.boolean), 3, true, 1) rfl (by decide +kernel) rfl rfl (by decide) (fun _ => ⟨_, _, rfl⟩) (fm_seCond8 hinj), (List.forall_mem_cons.mpr ⟨fw_row nn_PM5_ok (x := 48) (k := 0) (mn := 22) (np := 1) (ob := true) (ci := 8) (⟨"NameNotes$Tape", "refuse", "(I)Z"⟩, prog_10_method_14_code, 2, (Option.some Jvm.ClassFile.FieldType.boolean), 1, true, 1) rfl (by decide +kernel) rfl rfl (by decide) (fun _ => ⟨_, _, rfl⟩) (fm_refuse hinj), (fun _ h => absurd h List.not_mem_nil)⟩)⟩)⟩)⟩) (fun as σ0 K h => by
  obtain ⟨A, rfl, hb, hN0, hf, hg⟩ := h
  have c200 : fw_c 200 = 200 := fw_s (by decide) (by decide)
  refine ⟨rfl, fun G hG => fs_seRead_0 hG ⟨rfl, fs_seRead_4 hG ?_⟩⟩
  have e11 : (ab_ups (ab_ups σ0 65 3 0) 65 4 0) 1 1 = σ0 1 1 := (ab_ups_ne (by decide)).trans (ab_ups_ne (by decide))
  have M0 : ab_okM sq_M σ0 (ab_ups (ab_ups σ0 65 3 0) 65 4 0) := fw_okM_ups (fw_okM_ups (fw_okM_refl _ _) (by decide)) (by decide)
  have et : tp_t (ab_ups (ab_ups σ0 65 3 0) 65 4 0) = tp_t σ0 := tp_t_M M0 (by decide)
  have z4 : (ab_ups (ab_ups σ0 65 3 0) 65 4 0) 65 4 = 0 := ab_ups_eq
  have z3 : (ab_ups (ab_ups σ0 65 3 0) 65 4 0) 65 3 = 0 := (ab_ups_ne (by decide)).trans ab_ups_eq
  generalize ab_ups (ab_ups σ0 65 3 0) 65 4 0 = σ at e11 et M0 z4 z3 ⊢
  refine ⟨200, rfl, ⟨by omega, by omega, by rw [c200]; decide, by rw [c200]; decide⟩, fun σ1 N1 e2 e9 S1 => fs_seRead_11 hG ?_⟩
  have M1 : ab_okM sq_M σ0 σ1 := ev_tr M0 (ev_up N1 (by decide))
  rw [et, e11, c200] at S1
  have E1 : eD σ1 (tp_t σ0, (σ0 1 1).toNat, 200) 0 := by
    have a1 : σ1 1 1 = σ0 1 1 := (N1 1 1 (by decide)).trans e11
    refine ⟨?_, S1, Nat.zero_le _, ?_, e9⟩
    · unfold eT
      rw [tp_t_M N1 (by decide), et, a1, e2, c200]
    · rw [a1, e2, c200]
      omega
  have t4 : σ1 65 4 = ((0 : Nat) : Int) := (mk_row N1 (k := 65) (by decide) 4).trans z4
  have pg1 : pg σ1 [] := ⟨(mk_row N1 (k := 65) (by decide) 3).trans z3, fun i hi => absurd hi (Nat.not_lt_zero i)⟩
  generalize he : ((tp_t σ0, (σ0 1 1).toNat, 200) : tk_E) = e at hf hg E1 S1
  have lr := sl_r_ok A e ⟨hN0.1.1.1, hN0.1.2.1.1, hN0.1.2.2.1.1⟩
  generalize hr : sn_cd (sn_one A e 8) e 0 0 = r at *
  have er : sn_r A e = if r.1 ≠ 0 then r else if (tk e r.2.2.2).1 ≠ 0 then (1, ev_st e r.2.2.2, r.2.2.1, r.2.2.2) else r := by
    unfold sn_r
    rw [hr]
  refine ⟨A, e, 0, 0, rfl, ev_NC M1 (by decide +kernel) hN0, E1, ⟨t4, by decide⟩, ?_⟩
  rw [hr]
  refine ⟨fun q σ' M a b => ?_, fun q σ' M E2 f2 p2 => ?_⟩
  · rw [if_pos q] at er
    rw [er] at hf
    exact fs_seRead_18 hG ⟨fun z => absurd fw_c0 z, fun _ => ⟨fw_01, hf q σ' (ev_tr M1 (ev_up M (by decide))) a b⟩⟩
  · rw [if_neg (fun z => z q)] at er
    have M2 : ab_okM sq_M σ0 σ' := ev_tr M1 (ev_up M (by decide))
    refine fs_seRead_18 hG ⟨fun _ => ?_, fun z => absurd (fw_c1.symm.trans z) (by decide)⟩
    rw [E2.kind.2]
    refine ⟨fun z => ⟨fw_11, ?_⟩, fun z => ⟨1, rfl, ?_⟩⟩
    · rw [if_neg (fun w => w z)] at er
      rw [er] at hg lr
      have lr1 := (lr q).1
      exact hg q σ' M2 E2.2.2.2.2 f2 (p2 [] pg1 (by show 0 + (sl_r A e).length ≤ 62; omega))
    · rw [if_pos z] at er
      rw [er] at hf
      exact E2.rf (x := 1) (v := 0) (K := fun rv σ2 => G 35 [some (2, 65, 0), some (2, 1, 0), some (2, 3, 0)] (rv.toList ++ []) σ2) (by decide) (fun σ' a b c => fs_seRead_35 hG ⟨fun _ => ⟨fw_01, hf (show (1 : Int) ≠ 0 by decide) σ' (ev_tr M2 (ev_up a (by decide))) b c⟩, fun y => absurd fw_c0 y⟩))
theorem fm_cp_66_15 (hinj : nn_inj ad) : fw_H l cy ad wr cr D 50 0 (cp_k 66 15 64) := fw_mk hinj (⟨"NameNotes", "copyRow", "([I[I)V"⟩, prog_1_method_88_code, 3, (Option.none : Option Jvm.ClassFile.FieldType), 2, false, 4) rfl rfl nn_KI1_ok nn_KJ1_ok nn_PF1_ok nn_PS1_ok (by decide +kernel) rfl rfl (fun _ h => absurd h List.not_mem_nil) (fun as σ K h => by
  obtain ⟨rfl, h⟩ := h
  exact ⟨rfl, fun G hG => fs_cp_66_15_0 hG (cp_gen (a := 66) (b := 15) (n := 64) (f := fw_c) (K := K) (σ := σ) (G2 := fun i σ1 => G 2 [some (2, 66, 0), some (2, 15, 0), some (0, 0, i)] [] σ1) (by decide) (by decide) (fun a2 σ1 q => fs_cp_66_15_2 hG q) h)⟩)
theorem fm_cp_67_16 (hinj : nn_inj ad) : fw_H l cy ad wr cr D 50 0 (cp_k 67 16 64) := fw_mk hinj (⟨"NameNotes", "copyRow", "([I[I)V"⟩, prog_1_method_88_code, 3, (Option.none : Option Jvm.ClassFile.FieldType), 2, false, 4) rfl rfl nn_KI1_ok nn_KJ1_ok nn_PF1_ok nn_PS1_ok (by decide +kernel) rfl rfl (fun _ h => absurd h List.not_mem_nil) (fun as σ K h => by
  obtain ⟨rfl, h⟩ := h
  exact ⟨rfl, fun G hG => fs_cp_67_16_0 hG (cp_gen (a := 67) (b := 16) (n := 64) (f := fw_c) (K := K) (σ := σ) (G2 := fun i σ1 => G 2 [some (2, 67, 0), some (2, 16, 0), some (0, 0, i)] [] σ1) (by decide) (by decide) (fun a2 σ1 q => fs_cp_67_16_2 hG q) h)⟩)
theorem fm_cpq (hinj : nn_inj ad) : fw_H l cy ad wr cr D 50 0 sp_cpq := fw_H_o3 (List.forall_mem_cons.mpr ⟨fm_cp_66_15 hinj, List.forall_mem_cons.mpr ⟨fm_cp_67_16 hinj, (fun _ h => absurd h List.not_mem_nil)⟩⟩)
theorem fm_seCopy (hinj : nn_inj ad) : fw_H l cy ad wr cr D 52 1 sp_seCopy := fw_mk hinj (⟨"NameNotes$Sentence", "copy", "(LNameNotes$Sentence;)V"⟩, prog_7_method_3_code, 2, (Option.none : Option Jvm.ClassFile.FieldType), 1, true, 4) rfl rfl nn_KI5_ok nn_KJ5_ok nn_PF5_ok nn_PS5_ok (by decide +kernel) rfl rfl (List.forall_mem_cons.mpr ⟨fw_row nn_PM5_ok (x := 28) (k := 2) (mn := 50) (np := 2) (ob := false) (ci := 0) (⟨"NameNotes", "copyRow", "([I[I)V"⟩, prog_1_method_88_code, 3, (Option.none : Option Jvm.ClassFile.FieldType), 2, false, 4) rfl (by decide +kernel) rfl rfl (by decide) (fun q => by cases q) (fm_cpq hinj), (fun _ h => absurd h List.not_mem_nil)⟩) (fun as σ K h => by
  obtain ⟨rfl, h⟩ := h
  refine ⟨rfl, fun G hG => fs_seCopy_0 hG ⟨(66, 15, 64), by decide, rfl, fun σ1 M1 c1 => fs_seCopy_11 hG ⟨(67, 16, 64), by decide, rfl, fun σ2 M2 c2 => fs_seCopy_22 hG ?_⟩⟩⟩
  have M1 : ab_okM [(15, 1000000)] σ σ1 := M1
  have M2 : ab_okM [(16, 1000000)] σ1 σ2 := M2
  have c1 : ∀ j : Nat, j < 64 → σ1 15 j = fw_c (σ 66 j) := c1
  have c2 : ∀ j : Nat, j < 64 → σ2 16 j = fw_c (σ1 67 j) := c2
  have N2 : ab_okM [(15, 1000000), (16, 1000000)] σ σ2 := fw_okM_tr (fw_okM_tr (fw_okM_refl _ _) M1 (by decide)) M2 (by decide)
  refine h _ (fw_okM_ups (fw_okM_ups (fw_okM_tr (fw_okM_refl _ _) N2 (by decide)) (by decide)) (by decide)) (fun j hj => ?_) (fun j hj => ?_) ?_ ?_
  · rw [ab_ups_ne (fun z => absurd z.1 (by decide)), ab_ups_ne (fun z => absurd z.1 (by decide)), show σ2 15 = σ1 15 from fw_okM_c M2 (by decide)]; exact c1 j hj
  · rw [ab_ups_ne (fun z => absurd z.1 (by decide)), ab_ups_ne (fun z => absurd z.1 (by decide)), c2 j hj, show σ1 67 = σ 67 from fw_okM_c M1 (by decide)]
  · rw [ab_ups_ne (by decide), ab_ups_eq, show σ2 65 = σ 65 from fw_okM_c N2 (by decide)]
  · rw [ab_ups_eq, show σ2 65 = σ 65 from fw_okM_c N2 (by decide)])
theorem fm_sentence (hinj : nn_inj ad) : fw_H l cy ad wr cr D 172 24 sp_sentence := fw_mk hinj (⟨"NameNotes", "sentence", "()I"⟩, prog_1_method_55_code, 2, (Option.some Jvm.ClassFile.FieldType.int), 0, true, 0) rfl rfl nn_KI1_ok nn_KJ1_ok nn_PF1_ok nn_PS1_ok (by decide +kernel) rfl rfl (List.forall_mem_cons.mpr ⟨fw_row nn_PM1_ok (x := 433) (k := 0) (mn := 173) (np := 2) (ob := true) (ci := 5) (⟨"NameNotes$Sentence", "read", "(LNameNotes$Tape;LNameNotes$Studio;)Z"⟩, prog_7_method_4_code, 3, (Option.some Jvm.ClassFile.FieldType.boolean), 2, true, 1) rfl (by decide +kernel) rfl rfl (by decide) (fun _ => ⟨_, _, rfl⟩) (fm_seRead hinj), (List.forall_mem_cons.mpr ⟨fw_row nn_PM1_ok (x := 437) (k := 0) (mn := 52) (np := 1) (ob := true) (ci := 5) (⟨"NameNotes$Sentence", "copy", "(LNameNotes$Sentence;)V"⟩, prog_7_method_3_code, 2, (Option.none : Option Jvm.ClassFile.FieldType), 1, true, 4) rfl (by decide +kernel) rfl rfl (by decide) (fun _ => ⟨_, _, rfl⟩) (fm_seCopy hinj), (fun _ h => absurd h List.not_mem_nil)⟩)⟩) (fun as σ K h => by
  obtain ⟨A, rfl, hb, hN, hf, hg⟩ := h
  refine ⟨rfl, fun G hG => fs_sentence_0 hG ⟨A, rfl, hb, hN, fun q σ1 M1 b c => fs_sentence_15 hG ⟨fun z => absurd fw_c0 z, fun _ => ?_⟩, fun q σ1 M1 b f pp => fs_sentence_15 hG ⟨fun _ => ?_, fun z => absurd (fw_c1.symm.trans z) (by decide)⟩⟩⟩
  · have k := hf q (ab_ups σ1 1 1 (fw_c 0)) (fw_okM_ups (ev_up M1 (by decide)) (by decide)) (by rw [ab_ups_eq, fw_c0]) ((ab_ups_ne (by decide)).trans b)
    unfold v_se at k
    rw [if_pos q] at k
    rw [c]
    exact k
  · have M2 : ab_okM sz_M σ (ab_ups σ1 1 1 (fw_c 0)) := fw_okM_ups (ev_up M1 (by decide)) (by decide)
    have g1 : (ab_ups σ1 1 1 (fw_c 0)) 1 1 = 0 := by rw [ab_ups_eq, fw_c0]
    have g9 : (ab_ups σ1 1 1 (fw_c 0)) 1 9 = 0 := (ab_ups_ne (by decide)).trans b
    have g4 : (ab_ups σ1 1 1 (fw_c 0)) 65 4 = ((sn_r A (tp_t σ, (σ 1 1).toNat, 200)).2.2.1 : Int) := (ab_ups_ne (by decide)).trans f
    have pp2 : pg (ab_ups σ1 1 1 (fw_c 0)) (sl_r A (tp_t σ, (σ 1 1).toNat, 200)) := ⟨(ab_ups_ne (by decide)).trans pp.1, fun i hi => by
      rw [ab_ups_ne (fun z => absurd z.1 (by decide)), ab_ups_ne (fun z => absurd z.1 (by decide))]
      exact pp.2 i hi⟩
    have lr := sl_r_ok A (tp_t σ, (σ 1 1).toNat, 200) ⟨hN.1.1.1, hN.1.2.1.1, hN.1.2.2.1.1⟩ q
    have n20 := sn_r_20 A (tp_t σ, (σ 1 1).toNat, 200) q
    generalize ab_ups σ1 1 1 (fw_c 0) = σ2 at M2 g1 g9 g4 pp2 ⊢
    refine ⟨rfl, fun σ3 M3 r15 r16 r3 r4 => fs_sentence_52 hG ?_⟩
    have p3 : pq σ3 (sl_r A (tp_t σ, (σ 1 1).toNat, 200)) ((sn_r A (tp_t σ, (σ 1 1).toNat, 200)).2.2.1 : Int) := by
      have lr1 := lr.1
      refine ⟨⟨?_, ?_⟩, fun i hi => ?_⟩
      · rw [r4, g4]
        exact fw_s (by omega) (by omega)
      · rw [r3, pp2.1]
        exact fw_s (by omega) (by omega)
      · have y := pp2.2 i hi
        have v := vs_c ⟨⟨hN.1.1.1, hN.1.1.2⟩, ⟨hN.1.2.1.1, hN.1.2.1.2⟩, ⟨hN.1.2.2.1.1, hN.1.2.2.1.2⟩⟩ (lr.2.1 _ (List.mem_of_getElem? y))
        rw [r15 i (by omega), r16 i (by omega), show fw_c (σ2 66 i) = σ2 66 i from v.1, show fw_c (σ2 67 i) = σ2 67 i from v.2]
        exact y
    have k := hg q σ3 (ev_tr M2 (ev_up M3 (by decide))) ((mk_row M3 (k := 1) (by decide) 1).trans g1) ((mk_row M3 (k := 1) (by decide) 9).trans g9) p3
    unfold v_se at k
    rw [if_neg (fun z => z q)] at k
    rw [show σ3 65 4 = ((sn_r A (tp_t σ, (σ 1 1).toNat, 200)).2.2.1 : Int) from (mk_row M3 (k := 65) (by decide) 4).trans g4]
    exact k)
end
end
section
/-! a sentence: the reference reads it -/
def sm_M : ab_ML := (93, 59) :: (93, 60) :: (93, 61) :: (93, 62) :: (121, 1000000) :: mp_M
/-- how many ones, how deep, how many nodes at most -/
def sm_is (σ : ab_SG) (o d z : Nat) : Prop := σ 93 60 = (o : Int) ∧ σ 93 61 = (d : Int) ∧ (0 ≤ σ 93 59 ∧ σ 93 59 + (z : Int) ≤ 2 * (o : Int))
theorem mt_M {σ σ' : ab_SG} {e : tk_E} {p : Nat} {M : ab_ML} (h : mt_is σ e p) (hM : ab_okM M σ σ') (h1 : M.all (fun q => !(q.1.beq 93) || ((13 : Nat).ble q.2 && !(q.2.beq 1000000))) = true) (h2 : M.all (fun q => !(q.1.beq 94)) = true) : mt_is σ' e p := by
  have r : ∀ j : Nat, j < 13 → σ' 93 j = σ 93 j := fun j hj => hM 93 j (fun q hq w => by
    have g := List.all_eq_true.mp h1 q hq
    rw [Bool.or_eq_true, Bool.and_eq_true] at g
    rcases g with g | ⟨g, g2⟩
    · rw [w.1] at g
      exact absurd g (by decide)
    · have g3 := Nat.le_of_ble_eq_true g
      rcases w.2 with y | y
      · omega
      · rw [y] at g2
        exact absurd g2 (by decide))
  obtain ⟨a1, a2, a3, a4, a5, a6, a7⟩ := h
  refine ⟨?_, mg_tp_M a2 hM h2 (r 3 (by decide)), (r 3 (by decide)).trans a3, (r 4 (by decide)).trans a4, a5, (r 10 (by decide)).trans a6, ?_⟩
  · unfold mg_is
    rw [r 6 (by decide), r 5 (by decide), r 7 (by decide), r 12 (by decide), r 8 (by decide), r 9 (by decide)]
    exact a1
  · rw [r 3 (by decide), r 4 (by decide)]
    exact a7
def so_M : ab_ML := [(93, 59), (121, 1000000)]
/-! a node and all below it, as steps; n: how many nodes there are; how high at most -/
def rp (N : Nat → Int) (n : Int) : Nat → Int → sl_T → Prop
  | 0, _, _ => False
  | h + 1, t, L => (0 ≤ t ∧ t < n) ∧ ((N (4 * t.toNat) = 1 ∧ ∃ L1 : sl_T, rp N n h (N (4 * t.toNat + 1)) L1 ∧ L = L1 ++ [(0, 0)]) ∨
    (N (4 * t.toNat) = 2 ∧ ∃ L1 L2 : sl_T, rp N n h (N (4 * t.toNat + 1)) L1 ∧ rp N n h (N (4 * t.toNat + 2)) L2 ∧ L = L1 ++ (L2 ++ [(1, 0)])) ∨
    (N (4 * t.toNat) = 3 ∧ ∃ L1 L2 : sl_T, rp N n h (N (4 * t.toNat + 1)) L1 ∧ rp N n h (N (4 * t.toNat + 2)) L2 ∧ L = L1 ++ (L2 ++ [(2, 0)])) ∨
    (∃ w : Int, (10 ≤ w ∧ w ≤ 12) ∧ N (4 * t.toNat) = 50 + w ∧ L = [(w - 7, N (4 * t.toNat + 1))]) ∨
    (∃ w r : Int, (13 ≤ w ∧ w ≤ 16) ∧ (60 ≤ r ∧ r ≤ 62) ∧ N (4 * t.toNat) = 50 + w ∧ N (4 * t.toNat + 3) = r ∧ L = [(6 + 3 * (w - 13) + (r - 60), N (4 * t.toNat + 2))]))
theorem rp_s (N : Nat → Int) (n : Int) (h : Nat) (t : Int) (L : sl_T) : rp N n (h + 1) t L = ((0 ≤ t ∧ t < n) ∧ ((N (4 * t.toNat) = 1 ∧ ∃ L1 : sl_T, rp N n h (N (4 * t.toNat + 1)) L1 ∧ L = L1 ++ [(0, 0)]) ∨
    (N (4 * t.toNat) = 2 ∧ ∃ L1 L2 : sl_T, rp N n h (N (4 * t.toNat + 1)) L1 ∧ rp N n h (N (4 * t.toNat + 2)) L2 ∧ L = L1 ++ (L2 ++ [(1, 0)])) ∨
    (N (4 * t.toNat) = 3 ∧ ∃ L1 L2 : sl_T, rp N n h (N (4 * t.toNat + 1)) L1 ∧ rp N n h (N (4 * t.toNat + 2)) L2 ∧ L = L1 ++ (L2 ++ [(2, 0)])) ∨
    (∃ w : Int, (10 ≤ w ∧ w ≤ 12) ∧ N (4 * t.toNat) = 50 + w ∧ L = [(w - 7, N (4 * t.toNat + 1))]) ∨
    (∃ w r : Int, (13 ≤ w ∧ w ≤ 16) ∧ (60 ≤ r ∧ r ≤ 62) ∧ N (4 * t.toNat) = 50 + w ∧ N (4 * t.toNat + 3) = r ∧ L = [(6 + 3 * (w - 13) + (r - 60), N (4 * t.toNat + 2))]))) := rfl
theorem rp_bd {N : Nat → Int} {n : Int} {h : Nat} {t : Int} {L : sl_T} (H : rp N n h t L) : 0 ≤ t ∧ t < n := by
  cases h with
  | zero => exact absurd H (fun z => z)
  | succ h =>
    rw [rp_s] at H
    exact H.1
theorem rp_len {N : Nat → Int} {n : Int} {h : Nat} {t : Int} {L : sl_T} (H : rp N n h t L) : 1 ≤ L.length := by
  cases h with
  | zero => exact absurd H (fun z => z)
  | succ h =>
    rw [rp_s] at H
    rcases H.2 with ⟨-, L1, -, rfl⟩ | ⟨-, L1, L2, -, -, rfl⟩ | ⟨-, L1, L2, -, -, rfl⟩ | ⟨w, -, -, rfl⟩ | ⟨w, r, -, -, -, -, rfl⟩
    · rw [List.length_append, List.length_singleton]
      omega
    · rw [List.length_append, List.length_append, List.length_singleton]
      omega
    · rw [List.length_append, List.length_append, List.length_singleton]
      omega
    · exact Nat.le_refl 1
    · exact Nat.le_refl 1
theorem rp_mono {N N' : Nat → Int} {n n' : Int} (hn : n ≤ n') (hN : ∀ j : Nat, (j : Int) < 4 * n → N' j = N j) : ∀ (h h' : Nat) (t : Int) (L : sl_T), h ≤ h' → rp N n h t L → rp N' n' h' t L := by
  intro h
  induction h with
  | zero => exact fun h' t L _ H => absurd H (fun z => z)
  | succ h ih =>
    intro h' t L hh H
    obtain ⟨h2, rfl⟩ : ∃ h2 : Nat, h' = h2 + 1 := ⟨h' - 1, by omega⟩
    rw [rp_s] at H ⊢
    obtain ⟨b, H⟩ := H
    have e0 : N' (4 * t.toNat) = N (4 * t.toNat) := hN _ (by omega)
    have e1 : N' (4 * t.toNat + 1) = N (4 * t.toNat + 1) := hN _ (by omega)
    have e2 : N' (4 * t.toNat + 2) = N (4 * t.toNat + 2) := hN _ (by omega)
    have e3 : N' (4 * t.toNat + 3) = N (4 * t.toNat + 3) := hN _ (by omega)
    rw [e0, e1, e2, e3]
    refine ⟨⟨b.1, by omega⟩, ?_⟩
    have g : ∀ (t2 : Int) (L2 : sl_T), rp N n h t2 L2 → rp N' n' h2 t2 L2 := fun t2 L2 H2 => ih h2 t2 L2 (by omega) H2
    rcases H with ⟨a, L1, H1, e⟩ | ⟨a, L1, L2, H1, H2, e⟩ | ⟨a, L1, L2, H1, H2, e⟩ | H | H
    · exact Or.inl ⟨a, L1, g _ _ H1, e⟩
    · exact Or.inr (Or.inl ⟨a, L1, L2, g _ _ H1, g _ _ H2, e⟩)
    · exact Or.inr (Or.inr (Or.inl ⟨a, L1, L2, g _ _ H1, g _ _ H2, e⟩))
    · exact Or.inr (Or.inr (Or.inr (Or.inl H)))
    · exact Or.inr (Or.inr (Or.inr (Or.inr H)))
theorem rp_fc {N : Nat → Int} {n : Int} (hn : n ≤ 60) : ∀ (h : Nat) (t : Int) (L : sl_T), (∀ q ∈ L, fw_c q.2 = q.2) → rp N n h t L → rp (fun j => fw_c (N j)) n h t L := by
  intro h
  induction h with
  | zero => exact fun t L _ H => absurd H (fun z => z)
  | succ h ih =>
    intro t L hL H
    rw [rp_s] at H ⊢
    obtain ⟨b, H⟩ := H
    refine ⟨b, ?_⟩
    have cc : ∀ (x : Int) (L1 : sl_T), rp N n h x L1 → fw_c x = x := fun x L1 H1 => by
      have g := rp_bd H1
      exact fw_s (by omega) (by omega)
    have ch : ∀ (x : Int) (L1 : sl_T), rp N n h x L1 → (∀ q ∈ L1, fw_c q.2 = q.2) → rp (fun j => fw_c (N j)) n h (fw_c x) L1 := fun x L1 H1 h1 => by
      rw [cc x L1 H1]
      exact ih x L1 h1 H1
    rcases H with ⟨a, L1, H1, rfl⟩ | ⟨a, L1, L2, H1, H2, rfl⟩ | ⟨a, L1, L2, H1, H2, rfl⟩ | ⟨w, hw, a, rfl⟩ | ⟨w, r, hw, hr, a, c, rfl⟩
    · exact Or.inl ⟨(congrArg fw_c a).trans fw_c1, L1, ch _ _ H1 (fun q hq => hL q (List.mem_append_left _ hq)), rfl⟩
    · exact Or.inr (Or.inl ⟨(congrArg fw_c a).trans (fw_s (by decide) (by decide)), L1, L2, ch _ _ H1 (fun q hq => hL q (List.mem_append_left _ hq)), ch _ _ H2 (fun q hq => hL q (List.mem_append_right _ (List.mem_append_left _ hq))), rfl⟩)
    · exact Or.inr (Or.inr (Or.inl ⟨(congrArg fw_c a).trans (fw_s (by decide) (by decide)), L1, L2, ch _ _ H1 (fun q hq => hL q (List.mem_append_left _ hq)), ch _ _ H2 (fun q hq => hL q (List.mem_append_right _ (List.mem_append_left _ hq))), rfl⟩))
    · have e : fw_c (N (4 * t.toNat + 1)) = N (4 * t.toNat + 1) := hL _ List.mem_cons_self
      refine Or.inr (Or.inr (Or.inr (Or.inl ⟨w, hw, (congrArg fw_c a).trans (fw_s (by omega) (by omega)), ?_⟩)))
      show [(w - 7, N (4 * t.toNat + 1))] = [(w - 7, fw_c (N (4 * t.toNat + 1)))]
      rw [e]
    · have e : fw_c (N (4 * t.toNat + 2)) = N (4 * t.toNat + 2) := hL _ List.mem_cons_self
      refine Or.inr (Or.inr (Or.inr (Or.inr ⟨w, r, hw, hr, (congrArg fw_c a).trans (fw_s (by omega) (by omega)), (congrArg fw_c c).trans (fw_s (by omega) (by omega)), ?_⟩)))
      show [(6 + 3 * (w - 13) + (r - 60), N (4 * t.toNat + 2))] = [(6 + 3 * (w - 13) + (r - 60), fw_c (N (4 * t.toNat + 2)))]
      rw [e]
/-- nodes are only put behind -/
def gq (σ σ' : ab_SG) : Prop := σ 93 59 ≤ σ' 93 59 ∧ ∀ j : Nat, (j : Int) < 4 * σ 93 59 → σ' 121 j = σ 121 j
theorem gq_0 (σ : ab_SG) : gq σ σ := ⟨Int.le_refl _, fun _ _ => rfl⟩
theorem gq_tr {σ σ1 σ2 : ab_SG} (h1 : gq σ σ1) (h2 : gq σ1 σ2) : gq σ σ2 := ⟨Int.le_trans h1.1 h2.1, fun j hj => (h2.2 j (by have := h1.1; omega)).trans (h1.2 j hj)⟩
def gq_m (M : ab_ML) : Bool := mk_b M 93 59 && M.all (fun q => !(q.1.beq 121))
theorem gq_k {M : ab_ML} {σ σ' : ab_SG} (hM : ab_okM M σ σ') (m : gq_m M = true) : gq σ σ' := by
  unfold gq_m at m
  rw [Bool.and_eq_true] at m
  exact ⟨by rw [mk_at hM m.1]; exact Int.le_refl _, fun j _ => mk_row hM m.2 j⟩
theorem rp_g {σ σ' : ab_SG} {h h' : Nat} {t : Int} {L : sl_T} (g : gq σ σ') (hh : h ≤ h') (H : rp (σ 121) (σ 93 59) h t L) : rp (σ' 121) (σ' 93 59) h' t L := rp_mono g.1 g.2 h h' t L hh H
/-- the topmost node tells what was read -/
def sr (σ σ' : ab_SG) (h : Nat) (L : sl_T) : Prop := gq σ σ' ∧ rp (σ' 121) (σ' 93 59) h (σ' 93 62) L
theorem sr_l {σ σ1 σ' : ab_SG} {h h' : Nat} {L : sl_T} (g : gq σ σ1) (hh : h ≤ h') (H : sr σ1 σ' h L) : sr σ σ' h' L := ⟨gq_tr g H.1, rp_g (gq_0 σ') hh H.2⟩
def sr_m (M : ab_ML) : Bool := gq_m M && mk_b M 93 62
theorem sr_k {M : ab_ML} {σ σ1 σ' : ab_SG} {h : Nat} {L : sl_T} (H : sr σ σ1 h L) (hM : ab_okM M σ1 σ') (m : sr_m M = true) : sr σ σ' h L := by
  unfold sr_m at m
  rw [Bool.and_eq_true] at m
  refine ⟨gq_tr H.1 (gq_k hM m.1), ?_⟩
  rw [mk_at hM m.2]
  exact rp_g (gq_k hM m.1) (Nat.le_refl h) H.2
/-- a node is made the topmost -/
theorem sr_top {σ τ : ab_SG} {a : Int} {h : Nat} {L : sl_T} (g : gq σ τ) (hn : τ 93 59 ≤ 60) (H : rp (τ 121) (τ 93 59) h a L) : sr σ (ab_ups τ 93 62 (fw_c a)) h L := by
  have b := rp_bd H
  have c : fw_c a = a := fw_s (by omega) (by omega)
  have k : ab_okM [(93, 62)] τ (ab_ups τ 93 62 (fw_c a)) := okM_one
  refine ⟨gq_tr g (gq_k k (by decide)), ?_⟩
  have e : (ab_ups τ 93 62 (fw_c a)) 93 62 = a := by rw [ab_ups_eq, c]
  rw [e]
  exact rp_g (gq_k k (by decide)) (Nat.le_refl h) H
/-- one node more -/
def ne_is (σ σ' : ab_SG) (w a b r : Int) : Prop := (∀ j : Nat, (j : Int) < 4 * σ 93 59 → σ' 121 j = σ 121 j) ∧ σ' 121 (4 * (σ 93 59).toNat) = fw_c w ∧ σ' 121 (4 * (σ 93 59).toNat + 1) = fw_c a ∧ σ' 121 (4 * (σ 93 59).toNat + 2) = fw_c b ∧ σ' 121 (4 * (σ 93 59).toNat + 3) = fw_c r
theorem ne_g {σ σ' : ab_SG} {w a b r : Int} (e : σ' 93 59 = σ 93 59 + 1) (H : ne_is σ σ' w a b r) : gq σ σ' := ⟨by omega, H.1⟩
theorem rp_not {σ σ' : ab_SG} {a : Int} {h : Nat} {L1 : sl_T} (hn : 0 ≤ σ 93 59 ∧ σ 93 59 ≤ 60) (H1 : rp (σ 121) (σ 93 59) h a L1) (e : σ' 93 59 = σ 93 59 + 1) (H : ne_is σ σ' 1 a 0 0) : rp (σ' 121) (σ' 93 59) (h + 1) (σ 93 59) (L1 ++ [(0, 0)]) := by
  have b := rp_bd H1
  have c : fw_c a = a := fw_s (by omega) (by omega)
  have g := ne_g e H
  rw [rp_s]
  refine ⟨⟨hn.1, by omega⟩, Or.inl ⟨H.2.1.trans fw_c1, L1, ?_, rfl⟩⟩
  rw [H.2.2.1, c]
  exact rp_g g (Nat.le_refl h) H1
theorem rp_and {σ σ' : ab_SG} {a b : Int} {ha hb h : Nat} {L1 L2 : sl_T} (hn : 0 ≤ σ 93 59 ∧ σ 93 59 ≤ 60) (H1 : rp (σ 121) (σ 93 59) ha a L1) (H2 : rp (σ 121) (σ 93 59) hb b L2) (e : σ' 93 59 = σ 93 59 + 1) (H : ne_is σ σ' 2 a b 0) (h1 : ha + 1 ≤ h) (h2 : hb + 1 ≤ h) : rp (σ' 121) (σ' 93 59) h (σ 93 59) (L1 ++ (L2 ++ [(1, 0)])) := by
  have b1 := rp_bd H1
  have b2 := rp_bd H2
  have c1 : fw_c a = a := fw_s (by omega) (by omega)
  have c2 : fw_c b = b := fw_s (by omega) (by omega)
  have g := ne_g e H
  obtain ⟨h3, rfl⟩ : ∃ h3 : Nat, h = h3 + 1 := ⟨h - 1, by omega⟩
  rw [rp_s]
  refine ⟨⟨hn.1, by omega⟩, Or.inr (Or.inl ⟨H.2.1.trans (fw_s (by decide) (by decide)), L1, L2, ?_, ?_, rfl⟩)⟩
  · rw [H.2.2.1, c1]
    exact rp_g g (by omega) H1
  · rw [H.2.2.2.1, c2]
    exact rp_g g (by omega) H2
theorem rp_or {σ σ' : ab_SG} {a b : Int} {ha hb h : Nat} {L1 L2 : sl_T} (hn : 0 ≤ σ 93 59 ∧ σ 93 59 ≤ 60) (H1 : rp (σ 121) (σ 93 59) ha a L1) (H2 : rp (σ 121) (σ 93 59) hb b L2) (e : σ' 93 59 = σ 93 59 + 1) (H : ne_is σ σ' 3 a b 0) (h1 : ha + 1 ≤ h) (h2 : hb + 1 ≤ h) : rp (σ' 121) (σ' 93 59) h (σ 93 59) (L1 ++ (L2 ++ [(2, 0)])) := by
  have b1 := rp_bd H1
  have b2 := rp_bd H2
  have c1 : fw_c a = a := fw_s (by omega) (by omega)
  have c2 : fw_c b = b := fw_s (by omega) (by omega)
  have g := ne_g e H
  obtain ⟨h3, rfl⟩ : ∃ h3 : Nat, h = h3 + 1 := ⟨h - 1, by omega⟩
  rw [rp_s]
  refine ⟨⟨hn.1, by omega⟩, Or.inr (Or.inr (Or.inl ⟨H.2.1.trans (fw_s (by decide) (by decide)), L1, L2, ?_, ?_, rfl⟩))⟩
  · rw [H.2.2.1, c1]
    exact rp_g g (by omega) H1
  · rw [H.2.2.2.1, c2]
    exact rp_g g (by omega) H2
theorem rp_nm {σ σ' : ab_SG} {w x : Int} (hn : 0 ≤ σ 93 59 ∧ σ 93 59 ≤ 60) (hw : 10 ≤ w ∧ w ≤ 12) (hx : fw_c x = x) (e : σ' 93 59 = σ 93 59 + 1) (H : ne_is σ σ' (50 + w) x 0 0) : rp (σ' 121) (σ' 93 59) 1 (σ 93 59) [(w - 7, x)] := by
  rw [rp_s]
  refine ⟨⟨hn.1, by omega⟩, Or.inr (Or.inr (Or.inr (Or.inl ⟨w, hw, H.2.1.trans (fw_s (by omega) (by omega)), ?_⟩)))⟩
  rw [H.2.2.1, hx]
theorem rp_ms {σ σ' : ab_SG} {w x r : Int} (hn : 0 ≤ σ 93 59 ∧ σ 93 59 ≤ 60) (hw : 13 ≤ w ∧ w ≤ 16) (hr : 60 ≤ r ∧ r ≤ 62) (hx : fw_c x = x) (e : σ' 93 59 = σ 93 59 + 1) (H : ne_is σ σ' (50 + w) 0 x r) : rp (σ' 121) (σ' 93 59) 1 (σ 93 59) [(6 + 3 * (w - 13) + (r - 60), x)] := by
  rw [rp_s]
  refine ⟨⟨hn.1, by omega⟩, Or.inr (Or.inr (Or.inr (Or.inr ⟨w, r, hw, hr, H.2.1.trans (fw_s (by omega) (by omega)), H.2.2.2.2.trans (fw_s (by omega) (by omega)), ?_⟩)))⟩
  rw [H.2.2.2.1, hx]
theorem sl_lp_t {one : Nat → Nat → sn_T} {ol : Nat → Nat → sl_T} {e : tk_E} {p : Nat} (h : tw e p ≠ 8) : ∀ (g o : Nat), sl_lp one ol e g true o p = [(2, 0)] ++ sl_lp one ol e g false o p := by
  intro g o
  cases g with
  | zero => rfl
  | succ g =>
    rw [sl_lps, sl_lps, if_neg h, if_neg h]
    by_cases c : tw e p = 7
    · rw [if_pos c, if_pos c]
      rfl
    · rw [if_neg c, if_neg c]
      rfl
theorem sk_13 {e : tk_E} {p : Nat} (h : 13 ≤ tw e p ∧ tw e p ≤ 16) : sk_v e p = 6 + 3 * (tw e p - 13) := by
  unfold sk_v
  rw [if_neg (by omega), if_neg (by omega), if_neg (by omega), if_neg (by omega)]
  by_cases c13 : tw e p = 13
  · rw [if_pos c13]; omega
  rw [if_neg c13]
  by_cases c14 : tw e p = 14
  · rw [if_pos c14]; omega
  rw [if_neg c14]
  by_cases c15 : tw e p = 15
  · rw [if_pos c15]; omega
  rw [if_neg c15, if_pos (by omega)]
  omega
def sp_m_saysOne : fw_SP := fun as σ K => ∃ w a b r : Int, as = [(2, 93, 0), (0, 0, w), (0, 0, a), (0, 0, b), (0, 0, r)] ∧ (0 ≤ σ 93 59 ∧ σ 93 59 ≤ 50) ∧ ∀ (v : Int) (σ' : ab_SG), ab_okM so_M σ σ' → σ' 93 59 = σ 93 59 + 1 → v = σ 93 59 → ne_is σ σ' w a b r → K (some (0, 0, v)) σ'
/-- behind a reading: a fault; or where, how many ones, slack in nodes -/
def sm_post (σ : ab_SG) (r : sn_T) (L : sl_T) (h : Nat) (e : tk_E) (d z : Nat) (K : fw_KR) : Prop := (r.1 ≠ 0 → ∀ σ' : ab_SG, ab_okM sm_M σ σ' → σ' 93 10 = r.1 → σ' 93 11 = r.2.1 → K (some (0, 0, 0)) σ') ∧ (r.1 = 0 → ∀ σ' : ab_SG, ab_okM sm_M σ σ' → mt_is σ' e r.2.2.2 → sm_is σ' r.2.2.1 d z → sr σ σ' h L → K (some (0, 0, 1)) σ')
def sp_m_seOf : fw_SP := fun as σ K => ∃ (A : ab_SG) (e : tk_E) (p o d z b k9 : Nat) (w n : Int), as = [(2, 93, 0), (0, 0, w), (0, 0, (b : Int)), (0, 0, n)] ∧ mt_is σ e p ∧ (sm_is σ o d (z + 1) ∧ o ≤ 20) ∧ rm_k σ A b k9 n ∧ (0 ≤ n ∧ n ≤ 9 ∧ b + n.toNat ≤ 20) ∧ (10 ≤ w ∧ w ≤ 12) ∧ sm_post σ (sn_nm A e k9 n o p) (sl_nm A e k9 n (w - 7) p) 1 e d z K
def sp_m_seCmp : fw_SP := fun as σ K => ∃ (e : tk_E) (p o d z : Nat) (w : Int), as = [(2, 93, 0), (0, 0, w)] ∧ mt_is σ e p ∧ (sm_is σ o d (z + 1) ∧ o ≤ 20) ∧ (13 ≤ w ∧ w ≤ 16) ∧ sm_post σ (sn_ms e o p) (sl_ms e p (6 + 3 * (w - 13))) 1 e d z K
/-- what stands before a part that is read: the studio, the token, ones, depth, slack -/
def sm_pre (σ A : ab_SG) (e : tk_E) (p o k z : Nat) : Prop := NM σ A ∧ mt_is σ e p ∧ sm_is σ o (8 - k) z ∧ o ≤ 20
def sp_m_seOne (k : Nat) : fw_SP := fun as σ K => ∃ (A : ab_SG) (e : tk_E) (p o z : Nat), as = [(2, 93, 0)] ∧ sm_pre σ A e p o k z ∧ sm_post σ (sn_one A e k o p) (sl_one A e k o p) ((sn_one A e k o p).2.2.1 - o) e (8 - k) (z + 1) K
/-- ANDs: what is left of the row of ones stands at a token that isn't AND -/
def sp_m_seAnd (k : Nat) : fw_SP := fun as σ K => ∃ (A : ab_SG) (e : tk_E) (p o z g : Nat), as = [(2, 93, 0)] ∧ sm_pre σ A e p o k z ∧ 20 ≤ g + o ∧
  ∀ F : sn_T, F = (if (sn_one A e k o p).1 ≠ 0 then sn_one A e k o p else sn_lp (sn_one A e k) e g (sn_one A e k o p).2.2.1 (sn_one A e k o p).2.2.2) →
  (F.1 ≠ 0 → ∀ σ' : ab_SG, ab_okM sm_M σ σ' → σ' 93 10 = F.1 → σ' 93 11 = F.2.1 → K (some (0, 0, 0)) σ') ∧
  ∀ (g' o' p' : Nat) (σ' : ab_SG), F = sn_lp (sn_one A e k) e g' o' p' → tw e p' ≠ 8 → 21 ≤ g' + o' → o + 1 ≤ o' → o' ≤ 20 → ab_okM sm_M σ σ' → mt_is σ' e p' → sm_is σ' o' (8 - k) (z + 1) → ∀ LA : sl_T, (∀ w : Bool, sl_one A e k o p ++ sl_lp (sn_one A e k) (sl_one A e k) e g w (sn_one A e k o p).2.2.1 (sn_one A e k o p).2.2.2 = LA ++ sl_lp (sn_one A e k) (sl_one A e k) e g' w o' p') → sr σ σ' (o' - o) LA → K (some (0, 0, 1)) σ'
def sp_m_seOr (k : Nat) : fw_SP := fun as σ K => ∃ (A : ab_SG) (e : tk_E) (p o z : Nat), as = [(2, 93, 0)] ∧ sm_pre σ A e p o k z ∧ sm_post σ (sn_cd (sn_one A e k) e o p) (sl_cd (sn_one A e k) (sl_one A e k) e o p) ((sn_cd (sn_one A e k) e o p).2.2.1 - o) e (8 - k) (z + 1) K
def sp_m_seBr (k : Nat) : fw_SP := fun as σ K => ∃ (A : ab_SG) (e : tk_E) (p o z : Nat), as = [(2, 93, 0)] ∧ sm_pre σ A e p o k z ∧ sm_post σ (sn_br e (sn_cd (sn_one A e k) e o p)) (sl_cd (sn_one A e k) (sl_one A e k) e o p) ((sn_br e (sn_cd (sn_one A e k) e o p)).2.2.1 - o) e (8 - k) (z + 1) K
def sp_m_seNot (k : Nat) : fw_SP := fun as σ K => ∃ (A : ab_SG) (e : tk_E) (p o z : Nat), as = [(2, 93, 0)] ∧ sm_pre σ A e p o k z ∧ sm_post σ (sn_one A e k o p) (sl_one A e k o p ++ [(0, 0)]) ((sn_one A e k o p).2.2.1 - o + 1) e (8 - k) z K
theorem sm_NM {σ σ' A : ab_SG} (h : ab_okM sm_M σ σ') (hN : NM σ A) : NM σ' A := ev_NM h (by decide +kernel) hN
theorem ev_ix {A : ab_SG} {e : tk_E} {k p : Nat} {n : Int} (y : pr_ix A e k n p < 0) : pr_ix A e k n p = -1 := by
  have g : ∀ (f i : Nat), rw_fd (A k) (pr_wd e p) f i < 0 → rw_fd (A k) (pr_wd e p) f i = -1 := by
    intro f
    induction f with
    | zero => intro i _; rfl
    | succ f ih =>
      intro i hh
      unfold rw_fd at hh ⊢
      split at hh
      · omega
      · rename_i c
        rw [if_neg c]
        exact ih (i + 1) hh
  exact g _ _ y
theorem sm_k {M : ab_ML} {σ σ' : ab_SG} {o d z : Nat} (h : sm_is σ o d z) (hM : ab_okM M σ σ') (m : (mk_b M 93 60 && mk_b M 93 61 && mk_b M 93 59) = true) : sm_is σ' o d z := by
  rw [Bool.and_eq_true, Bool.and_eq_true] at m
  obtain ⟨a, b, c⟩ := h
  refine ⟨(mk_at hM m.1.1).trans a, (mk_at hM m.1.2).trans b, ?_⟩
  rw [mk_at hM m.2]
  exact c
theorem sm_s {σ σ' : ab_SG} {o d z : Nat} (h : sm_is σ o d (z + 1)) (hM : ab_okM so_M σ σ') (e : σ' 93 59 = σ 93 59 + 1) : sm_is σ' o d z := by
  obtain ⟨a, b, c⟩ := h
  refine ⟨(mk_at hM (k := 93) (j := 60) (by decide)).trans a, (mk_at hM (k := 93) (j := 61) (by decide)).trans b, ?_⟩
  rw [e]
  omega
theorem rm_11 {σ A : ab_SG} (h : NM σ A) : rm_k σ A 0 57 (A 49 11) := fun j hj => by
  rw [Nat.zero_add]
  exact h.2.2.2.2.2.2.2.2.2.2.1 j hj
def sM_N : ab_ML := (93, 0) :: (93, 2) :: (93, 3) :: (93, 4) :: (93, 22) :: (95, 3) :: sm_M
/-- what the reference keeps but for the sentence's places of its row -/
def sN_ok (σ σ' : ab_SG) : Prop := ∀ a b : Nat, (∀ q ∈ sM_N, ¬ (q.1 = a ∧ (q.2 = b ∨ q.2 = 1000000))) → ¬ (a = 95 ∧ 232 ≤ b ∧ b < 474) → σ' a b = σ a b
/-- the sentence as the reference's row has it -/
def mq (σ : ab_SG) (L : sl_T) : Prop := σ 95 232 = 1 ∧ rp (fun j => σ 95 (234 + j)) 60 20 (σ 95 233) L
def sp_m_sentence : fw_SP := fun as σ K => ∃ (A : ab_SG) (t : Nat → Int), as = [(2, 93, 0)] ∧ (0 ≤ σ 93 2 ∧ σ 93 2 ≤ 940) ∧ tq_is σ t ∧ ly_ok σ ∧ NM σ A ∧
  ((sn_r A (t, (σ 93 2).toNat, 200)).1 ≠ 0 → ∀ σ' : ab_SG, ab_okM sM_N σ σ' → σ' 93 2 = 0 → ly_is σ σ' → σ' 93 10 = (sn_r A (t, (σ 93 2).toNat, 200)).1 → K (some (0, 0, v_se A (t, (σ 93 2).toNat, 200))) σ') ∧
  ((sn_r A (t, (σ 93 2).toNat, 200)).1 = 0 → ∀ σ' : ab_SG, sN_ok σ σ' → σ' 93 2 = 0 → ly_is σ σ' → σ' 93 10 = 0 → mq σ' (sl_r A (t, (σ 93 2).toNat, 200)) → K (some (0, 0, v_se A (t, (σ 93 2).toNat, 200))) σ')
abbrev fk_m_saysOne : List fw_CR := []
abbrev st_m_saysOne : fw_K → fw_KR → fw_K := fw_st vwCl nn_sh nn_kd fw_kv fw_wc (nn_KI20.map (fun x => x.1)) (nn_KJ20.map (fun x => x.1)) (nn_PF20.map (fun x => x.1)) (nn_PS20.map (fun x => x.1)) fk_m_saysOne 0 nn_dt347 6 0
theorem fs_m_saysOne_0 {G : fw_K} {R : fw_KR} (hG : fw_cls st_m_saysOne R G) {w a b r : Int} {σ : ab_SG} (h : (0 ≤ fw_c (4 * (σ 93 59)) ∧ fw_c (4 * (σ 93 59)) < ((240 : Nat) : Int)) ∧ True ∧ ((0 ≤ fw_c ((4 * (σ 93 59)) + 1) ∧ fw_c ((4 * (σ 93 59)) + 1) < ((240 : Nat) : Int)) ∧ True ∧ ((0 ≤ fw_c ((4 * (σ 93 59)) + 2) ∧ fw_c ((4 * (σ 93 59)) + 2) < ((240 : Nat) : Int)) ∧ True ∧ ((0 ≤ fw_c ((4 * (σ 93 59)) + 3) ∧ fw_c ((4 * (σ 93 59)) + 3) < ((240 : Nat) : Int)) ∧ True ∧ (R (some (0, 0, (fw_c ((σ 93 59) + 1)) - 1)) (ab_ups (ab_ups (ab_ups (ab_ups (ab_ups σ 121 (fw_c (4 * (σ 93 59))).toNat (fw_c w)) 121 (fw_c ((4 * (σ 93 59)) + 1)).toNat (fw_c a)) 121 (fw_c ((4 * (σ 93 59)) + 2)).toNat (fw_c b)) 121 (fw_c ((4 * (σ 93 59)) + 3)).toNat (fw_c r)) 93 59 (fw_c ((σ 93 59) + 1)))))))) : G 0 [some (2, 93, 0), some (0, 0, w), some (0, 0, a), some (0, 0, b), some (0, 0, r), none] [] σ := fw_on hG [] 200 h
abbrev fk_m_seOf : List fw_CR := [(168, 1, true, 11, 0, sp_m_bad), (182, 0, true, 11, 1, sp_m_go), (199, 0, true, 11, 2, sp_m_isName), (203, 4, false, 0, 0, sp_m_findIn99), (498, 4, true, 11, 0, sp_m_saysOne)]
abbrev st_m_seOf : fw_K → fw_KR → fw_K := fw_st vwCl nn_sh nn_kd fw_kv fw_wc (nn_KI20.map (fun x => x.1)) (nn_KJ20.map (fun x => x.1)) (nn_PF20.map (fun x => x.1)) (nn_PS20.map (fun x => x.1)) fk_m_seOf 3 nn_dt348 5 1
theorem fs_m_seOf_0 {G : fw_K} {R : fw_KR} (hG : fw_cls st_m_seOf R G) {w b n : Int} {σ : ab_SG} (h : sp_m_isName [(2, 93, 0)] σ (fun rv σ2 => G 4 [some (2, 93, 0), some (0, 0, w), some (0, 0, b), some (0, 0, n), none] (rv.toList ++ []) σ2)) : G 0 [some (2, 93, 0), some (0, 0, w), some (0, 0, b), some (0, 0, n), none] [] σ := fw_on hG [4, 12, 26, 39, 53, 60] 200 h
theorem fs_m_seOf_4 {G : fw_K} {R : fw_KR} (hG : fw_cls st_m_seOf R G) {a1 a2 a3 b0 : Int} {o4 : Option ab_AV} {σ : ab_SG} (h : (fw_c b0 ≠ 0 → sp_m_findIn99 [(2, 99, 0), (0, 0, a2), (0, 0, a3), (1, 0, σ 93 12)] σ (fun rv σ2 => G 26 [some (2, 93, 0), some (0, 0, a1), some (0, 0, a2), some (0, 0, a3), o4] (rv.toList ++ []) σ2)) ∧ (fw_c b0 = 0 → sp_m_bad [(2, 93, 0), (0, 0, 1)] σ (fun rv σ2 => G 12 [some (2, 93, 0), some (0, 0, a1), some (0, 0, a2), some (0, 0, a3), o4] (rv.toList ++ []) σ2))) : G 4 [some (2, 93, 0), some (0, 0, a1), some (0, 0, a2), some (0, 0, a3), o4] [(0, 0, b0)] σ := fw_on hG [4, 12, 26, 39, 53, 60] 200 h
theorem fs_m_seOf_26 {G : fw_K} {R : fw_KR} (hG : fw_cls st_m_seOf R G) {a1 a3 b0 : Int} {o2 o4 : Option ab_AV} {σ : ab_SG} (h : (fw_c b0 ≠ fw_c (-1) → sp_m_saysOne [(2, 93, 0), (0, 0, 50 + a1), (0, 0, b0), (0, 0, 0), (0, 0, 0)] σ (fun rv σ2 => G 53 [some (2, 93, 0), some (0, 0, a1), o2, some (0, 0, a3), some (0, 0, b0)] (rv.toList ++ [(2, 93, 0)]) σ2)) ∧ (fw_c b0 = fw_c (-1) → sp_m_bad [(2, 93, 0), (0, 0, 3)] σ (fun rv σ2 => G 39 [some (2, 93, 0), some (0, 0, a1), o2, some (0, 0, a3), some (0, 0, b0)] (rv.toList ++ []) σ2))) : G 26 [some (2, 93, 0), some (0, 0, a1), o2, some (0, 0, a3), o4] [(0, 0, b0)] σ := fw_on hG [4, 12, 26, 39, 53, 60] 200 h
theorem fs_m_seOf_12 {G : fw_K} {R : fw_KR} (hG : fw_cls st_m_seOf R G) {a3 b0 : Int} {o1 o2 o4 : Option ab_AV} {σ : ab_SG} (h : (0 ≤ fw_c b0 ∧ fw_c b0 ≤ 1) ∧ R (some (0, 0, b0)) σ) : G 12 [some (2, 93, 0), o1, o2, some (0, 0, a3), o4] [(0, 0, b0)] σ := fw_on hG [4, 12, 26, 39, 53, 60] 200 h
theorem fs_m_seOf_53 {G : fw_K} {R : fw_KR} (hG : fw_cls st_m_seOf R G) {a3 b0 : Int} {o1 o2 o4 : Option ab_AV} {σ : ab_SG} (h : sp_m_go [(2, 93, 0)] (ab_ups σ 93 62 (fw_c b0)) (fun rv σ2 => G 60 [some (2, 93, 0), o1, o2, some (0, 0, a3), o4] (rv.toList ++ []) σ2)) : G 53 [some (2, 93, 0), o1, o2, some (0, 0, a3), o4] [(0, 0, b0), (2, 93, 0)] σ := fw_on hG [4, 12, 26, 39, 53, 60] 200 h
theorem fs_m_seOf_39 {G : fw_K} {R : fw_KR} (hG : fw_cls st_m_seOf R G) {a3 b0 : Int} {o1 o2 o4 : Option ab_AV} {σ : ab_SG} (h : (0 ≤ fw_c b0 ∧ fw_c b0 ≤ 1) ∧ R (some (0, 0, b0)) σ) : G 39 [some (2, 93, 0), o1, o2, some (0, 0, a3), o4] [(0, 0, b0)] σ := fw_on hG [4, 12, 26, 39, 53, 60] 200 h
theorem fs_m_seOf_60 {G : fw_K} {R : fw_KR} (hG : fw_cls st_m_seOf R G) {a3 : Int} {o1 o2 o4 : Option ab_AV} {σ : ab_SG} (h : (0 ≤ fw_c 1 ∧ fw_c 1 ≤ 1) ∧ R (some (0, 0, 1)) σ) : G 60 [some (2, 93, 0), o1, o2, some (0, 0, a3), o4] [] σ := fw_on hG [4, 12, 26, 39, 53, 60] 200 h
abbrev fk_m_seCmp : List fw_CR := [(168, 1, true, 11, 0, sp_m_bad), (182, 0, true, 11, 1, sp_m_go), (185, 1, true, 11, 0, sp_m_isSign), (210, 2, true, 11, 2, sp_m_readNumberP), (498, 4, true, 11, 0, sp_m_saysOne)]
abbrev st_m_seCmp : fw_K → fw_KR → fw_K := fw_st vwCl nn_sh nn_kd fw_kv fw_wc (nn_KI20.map (fun x => x.1)) (nn_KJ20.map (fun x => x.1)) (nn_PF20.map (fun x => x.1)) (nn_PS20.map (fun x => x.1)) fk_m_seCmp 3 nn_dt349 3 1
theorem fs_m_seCmp_0 {G : fw_K} {R : fw_KR} (hG : fw_cls st_m_seCmp R G) {w : Int} {σ : ab_SG} (h : sp_m_isSign [(2, 93, 0), (0, 0, 60)] σ (fun rv σ2 => G 6 [some (2, 93, 0), some (0, 0, w), none] (rv.toList ++ []) σ2)) : G 0 [some (2, 93, 0), some (0, 0, w), none] [] σ := fw_on hG [6, 15, 24, 32, 33, 42, 49, 69] 200 h
theorem fs_m_seCmp_6 {G : fw_K} {R : fw_KR} (hG : fw_cls st_m_seCmp R G) {a1 b0 : Int} {o2 : Option ab_AV} {σ : ab_SG} (h : (fw_c b0 ≠ 0 → G 33 [some (2, 93, 0), some (0, 0, a1), o2] [] σ) ∧ (fw_c b0 = 0 → sp_m_isSign [(2, 93, 0), (0, 0, 61)] σ (fun rv σ2 => G 15 [some (2, 93, 0), some (0, 0, a1), o2] (rv.toList ++ []) σ2))) : G 6 [some (2, 93, 0), some (0, 0, a1), o2] [(0, 0, b0)] σ := fw_on hG [6, 15, 24, 32, 33, 42, 49, 69] 200 h
theorem fs_m_seCmp_33 {G : fw_K} {R : fw_KR} (hG : fw_cls st_m_seCmp R G) {a1 : Int} {o2 : Option ab_AV} {σ : ab_SG} (h : sp_m_go [(2, 93, 0)] σ (fun rv σ2 => G 42 [some (2, 93, 0), some (0, 0, a1), some (0, 0, σ 93 9)] (rv.toList ++ []) σ2)) : G 33 [some (2, 93, 0), some (0, 0, a1), o2] [] σ := fw_on hG [6, 15, 24, 32, 33, 42, 49, 69] 200 h
theorem fs_m_seCmp_15 {G : fw_K} {R : fw_KR} (hG : fw_cls st_m_seCmp R G) {a1 b0 : Int} {o2 : Option ab_AV} {σ : ab_SG} (h : (fw_c b0 ≠ 0 → G 33 [some (2, 93, 0), some (0, 0, a1), o2] [] σ) ∧ (fw_c b0 = 0 → sp_m_isSign [(2, 93, 0), (0, 0, 62)] σ (fun rv σ2 => G 24 [some (2, 93, 0), some (0, 0, a1), o2] (rv.toList ++ []) σ2))) : G 15 [some (2, 93, 0), some (0, 0, a1), o2] [(0, 0, b0)] σ := fw_on hG [6, 15, 24, 32, 33, 42, 49, 69] 200 h
theorem fs_m_seCmp_42 {G : fw_K} {R : fw_KR} (hG : fw_cls st_m_seCmp R G) {a1 a2 : Int} {σ : ab_SG} (h : sp_m_readNumberP [(2, 93, 0), (0, 0, 0), (0, 0, 99)] σ (fun rv σ2 => G 49 [some (2, 93, 0), some (0, 0, a1), some (0, 0, a2)] (rv.toList ++ []) σ2)) : G 42 [some (2, 93, 0), some (0, 0, a1), some (0, 0, a2)] [] σ := fw_on hG [6, 15, 24, 32, 33, 42, 49, 69] 200 h
theorem fs_m_seCmp_24 {G : fw_K} {R : fw_KR} (hG : fw_cls st_m_seCmp R G) {a1 b0 : Int} {o2 : Option ab_AV} {σ : ab_SG} (h : (fw_c b0 ≠ 0 → G 33 [some (2, 93, 0), some (0, 0, a1), o2] [] σ) ∧ (fw_c b0 = 0 → sp_m_bad [(2, 93, 0), (0, 0, 1)] σ (fun rv σ2 => G 32 [some (2, 93, 0), some (0, 0, a1), o2] (rv.toList ++ []) σ2))) : G 24 [some (2, 93, 0), some (0, 0, a1), o2] [(0, 0, b0)] σ := fw_on hG [6, 15, 24, 32, 33, 42, 49, 69] 200 h
theorem fs_m_seCmp_49 {G : fw_K} {R : fw_KR} (hG : fw_cls st_m_seCmp R G) {a1 a2 b0 : Int} {σ : ab_SG} (h : (fw_c b0 ≠ 0 → sp_m_saysOne [(2, 93, 0), (0, 0, 50 + a1), (0, 0, 0), (0, 0, σ 93 13), (0, 0, a2)] σ (fun rv σ2 => G 69 [some (2, 93, 0), some (0, 0, a1), some (0, 0, a2)] (rv.toList ++ [(2, 93, 0)]) σ2)) ∧ (fw_c b0 = 0 → (0 ≤ fw_c 0 ∧ fw_c 0 ≤ 1) ∧ R (some (0, 0, 0)) σ)) : G 49 [some (2, 93, 0), some (0, 0, a1), some (0, 0, a2)] [(0, 0, b0)] σ := fw_on hG [6, 15, 24, 32, 33, 42, 49, 69] 200 h
theorem fs_m_seCmp_32 {G : fw_K} {R : fw_KR} (hG : fw_cls st_m_seCmp R G) {b0 : Int} {o1 o2 : Option ab_AV} {σ : ab_SG} (h : (0 ≤ fw_c b0 ∧ fw_c b0 ≤ 1) ∧ R (some (0, 0, b0)) σ) : G 32 [some (2, 93, 0), o1, o2] [(0, 0, b0)] σ := fw_on hG [6, 15, 24, 32, 33, 42, 49, 69] 200 h
theorem fs_m_seCmp_69 {G : fw_K} {R : fw_KR} (hG : fw_cls st_m_seCmp R G) {b0 : Int} {o1 o2 : Option ab_AV} {σ : ab_SG} (h : (0 ≤ fw_c 1 ∧ fw_c 1 ≤ 1) ∧ R (some (0, 0, 1)) (ab_ups σ 93 62 (fw_c b0))) : G 69 [some (2, 93, 0), o1, o2] [(0, 0, b0), (2, 93, 0)] σ := fw_on hG [6, 15, 24, 32, 33, 42, 49, 69] 200 h
section
variable {l : Launch} {cy : Nat → ClassId} {ad wr cr : Nat → Nat} {D : va_G}
theorem fm_m_saysOne (hinj : nn_inj ad) : fw_H l cy ad wr cr D 347 0 sp_m_saysOne := fw_mk hinj (⟨"NameNotesModel", "saysOne", "(IIII)I"⟩, prog_14_method_139_code, 6, (Option.some Jvm.ClassFile.FieldType.int), 4, true, 0) rfl rfl nn_KI20_ok nn_KJ20_ok nn_PF20_ok nn_PS20_ok (by decide +kernel) rfl rfl (fun _ h => absurd h List.not_mem_nil) (fun as σ K h => by
  obtain ⟨w, a, b, r, rfl, hn, h⟩ := h
  refine ⟨rfl, fun G hG => fs_m_saysOne_0 hG ?_⟩
  have c0 : fw_c (4 * σ 93 59) = 4 * σ 93 59 := fw_s (by omega) (by omega)
  have c1 : fw_c (4 * σ 93 59 + 1) = 4 * σ 93 59 + 1 := fw_s (by omega) (by omega)
  have c2 : fw_c (4 * σ 93 59 + 2) = 4 * σ 93 59 + 2 := fw_s (by omega) (by omega)
  have c3 : fw_c (4 * σ 93 59 + 3) = 4 * σ 93 59 + 3 := fw_s (by omega) (by omega)
  have c4 : fw_c (σ 93 59 + 1) = σ 93 59 + 1 := fw_s (by omega) (by omega)
  have t0 : (4 * σ 93 59).toNat = 4 * (σ 93 59).toNat := by omega
  have t1 : (4 * σ 93 59 + 1).toNat = 4 * (σ 93 59).toNat + 1 := by omega
  have t2 : (4 * σ 93 59 + 2).toNat = 4 * (σ 93 59).toNat + 2 := by omega
  have t3 : (4 * σ 93 59 + 3).toNat = 4 * (σ 93 59).toNat + 3 := by omega
  rw [c0, c1, c2, c3, c4, t0, t1, t2, t3]
  refine ⟨⟨by omega, by show 4 * σ 93 59 < (240 : Int); omega⟩, trivial, ⟨by omega, by show 4 * σ 93 59 + 1 < (240 : Int); omega⟩, trivial, ⟨by omega, by show 4 * σ 93 59 + 2 < (240 : Int); omega⟩, trivial, ⟨by omega, by show 4 * σ 93 59 + 3 < (240 : Int); omega⟩, trivial, h _ _ (fw_okM_ups (fw_okM_upa (fw_okM_upa (fw_okM_upa (fw_okM_upa (fw_okM_refl _ _) (by decide)) (by decide)) (by decide)) (by decide)) (by decide)) ab_ups_eq (by omega) ⟨fun j hj => ?_, ?_, ?_, ?_, ?_⟩⟩
  · rw [ab_ups_ne (fun z => absurd z.1 (by decide)), ab_ups_ne (fun z => by have := z.2; omega), ab_ups_ne (fun z => by have := z.2; omega), ab_ups_ne (fun z => by have := z.2; omega), ab_ups_ne (fun z => by have := z.2; omega)]
  · rw [ab_ups_ne (fun z => absurd z.1 (by decide)), ab_ups_ne (fun z => by have := z.2; omega), ab_ups_ne (fun z => by have := z.2; omega), ab_ups_ne (fun z => by have := z.2; omega), ab_ups_eq]
  · rw [ab_ups_ne (fun z => absurd z.1 (by decide)), ab_ups_ne (fun z => by have := z.2; omega), ab_ups_ne (fun z => by have := z.2; omega), ab_ups_eq]
  · rw [ab_ups_ne (fun z => absurd z.1 (by decide)), ab_ups_ne (fun z => by have := z.2; omega), ab_ups_eq]
  · rw [ab_ups_ne (fun z => absurd z.1 (by decide)), ab_ups_eq])
theorem fm_m_seOf (hinj : nn_inj ad) : fw_H l cy ad wr cr D 348 3 sp_m_seOf := fw_mk hinj (⟨"NameNotesModel", "readOf", "(III)Z"⟩, prog_14_method_145_code, 5, (Option.some Jvm.ClassFile.FieldType.boolean), 3, true, 1) rfl rfl nn_KI20_ok nn_KJ20_ok nn_PF20_ok nn_PS20_ok (by decide +kernel) rfl rfl (List.forall_mem_cons.mpr ⟨fw_row nn_PM20_ok (x := 168) (k := 0) (mn := 221) (np := 1) (ob := true) (ci := 11) (⟨"NameNotesModel", "bad", "(I)Z"⟩, prog_14_method_23_code, 2, (Option.some Jvm.ClassFile.FieldType.boolean), 1, true, 1) rfl (by decide +kernel) rfl rfl (by decide) (fun _ => ⟨_, _, rfl⟩) (fm_m_bad hinj), (List.forall_mem_cons.mpr ⟨fw_row nn_PM20_ok (x := 182) (k := 0) (mn := 212) (np := 0) (ob := true) (ci := 11) (⟨"NameNotesModel", "go", "()V"⟩, prog_14_method_17_code, 5, (Option.none : Option Jvm.ClassFile.FieldType), 0, true, 4) rfl (by decide +kernel) rfl rfl (by decide) (fun _ => ⟨_, _, rfl⟩) (fm_m_go hinj), (List.forall_mem_cons.mpr ⟨fw_row nn_PM20_ok (x := 199) (k := 0) (mn := 223) (np := 0) (ob := true) (ci := 11) (⟨"NameNotesModel", "isName", "()Z"⟩, prog_14_method_22_code, 2, (Option.some Jvm.ClassFile.FieldType.boolean), 0, true, 1) rfl (by decide +kernel) rfl rfl (by decide) (fun _ => ⟨_, _, rfl⟩) (fm_m_isName hinj), (List.forall_mem_cons.mpr ⟨fw_row nn_PM20_ok (x := 203) (k := 0) (mn := 224) (np := 4) (ob := false) (ci := 0) (⟨"NameNotesModel", "findIn", "([JIIJ)I"⟩, prog_14_method_29_code, 6, (Option.some Jvm.ClassFile.FieldType.int), 4, false, 0) rfl (by decide +kernel) rfl rfl (by decide) (fun q => by cases q) (fm_m_findIn99 hinj), (List.forall_mem_cons.mpr ⟨fw_row nn_PM20_ok (x := 498) (k := 0) (mn := 347) (np := 4) (ob := true) (ci := 11) (⟨"NameNotesModel", "saysOne", "(IIII)I"⟩, prog_14_method_139_code, 6, (Option.some Jvm.ClassFile.FieldType.int), 4, true, 0) rfl (by decide +kernel) rfl rfl (by decide) (fun _ => ⟨_, _, rfl⟩) (fm_m_saysOne hinj), (fun _ h => absurd h List.not_mem_nil)⟩)⟩)⟩)⟩)⟩) (fun as σ K h => by
  obtain ⟨A, e, p, o, d, z, b, k9, w, n, rfl, hm, ⟨hs, ho⟩, hr, hn, hw, h0, h1⟩ := h
  have m1 : fw_c (-1) = -1 := fw_s (by decide) (by decide)
  refine ⟨rfl, fun G hG => fs_m_seOf_0 hG ⟨e, p, rfl, hm.1, fs_m_seOf_4 hG ⟨fun zz => ?_, fun zz => ?_⟩⟩⟩
  · have hq := fw_bo_ne zz
    have ek : pr_sk A e k9 n p = if pr_ix A e k9 n p < 0 then 3 else 0 := if_pos hq
    refine mf_find hm hq.1 hn hr (fs_m_seOf_26 hG ?_)
    have hl := rw_fd_le (A k9) (pr_wd e p) n.toNat 0
    replace hl : pr_ix A e k9 n p < 0 ∨ (((0 : Nat) : Int) ≤ pr_ix A e k9 n p ∧ pr_ix A e k9 n p < ((0 : Nat) : Int) + n.toNat) := hl
    by_cases y : pr_ix A e k9 n p < 0
    · rw [if_pos y] at ek
      have en : sn_nm A e k9 n o p = (3, ev_st e p, o, p) := by
        unfold sn_nm
        rw [if_pos (by rw [ek]; decide), ek]
      rw [en] at h0
      refine ⟨fun u => absurd (by rw [ev_ix y]) u, fun _ => mp_bad hm.1 (by decide) (fun σ' hM h10 h11 => fs_m_seOf_39 hG ⟨fw_01, h0 (show (3 : Int) ≠ 0 by decide) σ' (ev_up hM (by decide)) ?_ h11⟩)⟩
      have k := (mg_kind hm.1).1.mpr hq.1
      rw [h10, if_neg (by omega)]
    · rw [if_neg y] at ek
      have en : sn_nm A e k9 n o p = (0, 0, o, tn e p) := by
        unfold sn_nm
        rw [if_neg (fun u => u ek)]
      rw [en] at h1
      have cx : fw_c (pr_ix A e k9 n p) = pr_ix A e k9 n p := fw_s (by omega) (by omega)
      refine ⟨fun _ => ⟨_, _, _, _, rfl, ⟨hs.2.2.1, by have := hs.2.2.2; omega⟩, fun v σ1 M1 e59 ev hd => fs_m_seOf_53 hG ?_⟩, fun u => absurd u (by rw [cx, m1]; omega)⟩
      have hm1 : mt_is (ab_ups σ1 93 62 (fw_c v)) e p := mt_ups (mt_M hm M1 (by decide) (by decide)) (Or.inr ⟨rfl, by decide⟩)
      have s1 : sm_is (ab_ups σ1 93 62 (fw_c v)) o d z := sm_k (M := [(93, 62)]) (sm_s hs M1 e59) okM_one (by decide)
      have M2 : ab_okM sm_M σ (ab_ups σ1 93 62 (fw_c v)) := fw_okM_ups (ev_up M1 (by decide)) (by decide)
      have H1 : sr σ (ab_ups σ1 93 62 (fw_c v)) 1 (sl_nm A e k9 n (w - 7) p) := sr_top (ne_g e59 hd) (by have := hs.2.2; omega) (by rw [ev]; exact rp_nm ⟨hs.2.2.1, by have := hs.2.2; omega⟩ hw cx e59 hd)
      exact mt_go hm1 (fun σ2 N2 hm2 => fs_m_seOf_60 hG ⟨fw_11, h1 rfl σ2 (ev_tr M2 (ev_up N2 (by decide))) hm2 (sm_k s1 N2 (by decide)) (sr_k H1 N2 (by decide))⟩)
  · have hq := fw_bo_eq zz
    have en : sn_nm A e k9 n o p = (1, ev_st e p, o, p) := by
      have ek : pr_sk A e k9 n p = 1 := if_neg hq
      unfold sn_nm
      rw [if_pos (by rw [ek]; decide), ek]
    rw [en] at h0
    refine mp_bad hm.1 (by decide) (fun σ' hM h10 h11 => fs_m_seOf_12 hG ⟨fw_01, h0 (show (1 : Int) ≠ 0 by decide) σ' (ev_up hM (by decide)) ?_ h11⟩)
    rw [h10]
    split <;> rfl)
theorem fm_m_seCmp (hinj : nn_inj ad) : fw_H l cy ad wr cr D 349 3 sp_m_seCmp := fw_mk hinj (⟨"NameNotesModel", "readCompare", "(I)Z"⟩, prog_14_method_146_code, 3, (Option.some Jvm.ClassFile.FieldType.boolean), 1, true, 1) rfl rfl nn_KI20_ok nn_KJ20_ok nn_PF20_ok nn_PS20_ok (by decide +kernel) rfl rfl (List.forall_mem_cons.mpr ⟨fw_row nn_PM20_ok (x := 168) (k := 0) (mn := 221) (np := 1) (ob := true) (ci := 11) (⟨"NameNotesModel", "bad", "(I)Z"⟩, prog_14_method_23_code, 2, (Option.some Jvm.ClassFile.FieldType.boolean), 1, true, 1) rfl (by decide +kernel) rfl rfl (by decide) (fun _ => ⟨_, _, rfl⟩) (fm_m_bad hinj), (List.forall_mem_cons.mpr ⟨fw_row nn_PM20_ok (x := 182) (k := 0) (mn := 212) (np := 0) (ob := true) (ci := 11) (⟨"NameNotesModel", "go", "()V"⟩, prog_14_method_17_code, 5, (Option.none : Option Jvm.ClassFile.FieldType), 0, true, 4) rfl (by decide +kernel) rfl rfl (by decide) (fun _ => ⟨_, _, rfl⟩) (fm_m_go hinj), (List.forall_mem_cons.mpr ⟨fw_row nn_PM20_ok (x := 185) (k := 0) (mn := 236) (np := 1) (ob := true) (ci := 11) (⟨"NameNotesModel", "isSign", "(I)Z"⟩, prog_14_method_21_code, 2, (Option.some Jvm.ClassFile.FieldType.boolean), 1, true, 1) rfl (by decide +kernel) rfl rfl (by decide) (fun _ => ⟨_, _, rfl⟩) (fm_m_isSign hinj), (List.forall_mem_cons.mpr ⟨fw_row nn_PM20_ok (x := 210) (k := 0) (mn := 227) (np := 2) (ob := true) (ci := 11) (⟨"NameNotesModel", "readNumber", "(II)Z"⟩, prog_14_method_25_code, 3, (Option.some Jvm.ClassFile.FieldType.boolean), 2, true, 1) rfl (by decide +kernel) rfl rfl (by decide) (fun _ => ⟨_, _, rfl⟩) (fm_m_readNumberP hinj), (List.forall_mem_cons.mpr ⟨fw_row nn_PM20_ok (x := 498) (k := 0) (mn := 347) (np := 4) (ob := true) (ci := 11) (⟨"NameNotesModel", "saysOne", "(IIII)I"⟩, prog_14_method_139_code, 6, (Option.some Jvm.ClassFile.FieldType.int), 4, true, 0) rfl (by decide +kernel) rfl rfl (by decide) (fun _ => ⟨_, _, rfl⟩) (fm_m_saysOne hinj), (fun _ h => absurd h List.not_mem_nil)⟩)⟩)⟩)⟩)⟩) (fun as σ K h => by
  obtain ⟨e, p, o, d, z, w, rfl, hm, ⟨hs, ho⟩, hw, h0, h1⟩ := h
  have isg : ∀ (x : Int) (Q : fw_KR), (60 ≤ x ∧ x ≤ 62) → ((tk e p).1 = x → Q (some (0, 0, 1)) σ) → ((tk e p).1 ≠ x → Q (some (0, 0, 0)) σ) → sp_m_isSign [(2, 93, 0), (0, 0, x)] σ Q := by
    intro x Q hx a b
    refine ⟨x, e, p, rfl, Or.inr (Or.inl hx), hm.1, ?_⟩
    by_cases c : (tk e p).1 = x
    · rw [fw_bo_t c]
      exact a c
    · rw [fw_bo_f c]
      exact b c
  have u0 : ∀ {X : Prop}, fw_c 0 ≠ 0 → X := fun z => absurd fw_c0 z
  have u1 : ∀ {X : Prop}, fw_c 1 = 0 → X := fun z => absurd (fw_c1.symm.trans z) (by decide)
  refine ⟨rfl, fun G hG => ?_⟩
  have g33 : (60 ≤ (tk e p).1 ∧ (tk e p).1 ≤ 62) → ∀ o2 : Option ab_AV, G 33 [some (2, 93, 0), some (0, 0, w), o2] [] σ := by
    intro c o2
    have e9 : σ 93 9 = (tk e p).1 := (hm.1.2.2.2.2.2.2 (Or.inr (Or.inl c))).2
    refine fs_m_seCmp_33 hG (mt_go hm (fun σ1 M1 hm1 => fs_m_seCmp_42 hG ⟨0, 99, e, tn e p, rfl, by decide, hm1, fun q σ' hM h10 h11 => ?_, fun q σ2 M2 e13 hm2 => ?_⟩))
    · have k3 : (tk e (tn e p)).1 ≠ 3 ∧ pr_nm e (tn e p) 0 99 = 1 := by
        by_cases k : (tk e (tn e p)).1 = 3
        · have g := hm1.1.2.2.2.2.2.1 k
          exact absurd (by unfold pr_nm; rw [if_pos k, if_pos ⟨g.2.2.1, g.2.2.2⟩]) q
        · exact ⟨k, if_neg k⟩
      have en : sn_ms e o p = (1, ev_st e (tn e p), o, tn e p) := (if_neg (fun y => y c)).trans (if_pos k3.1)
      rw [en] at h0
      exact fs_m_seCmp_49 hG ⟨u0, fun _ => ⟨fw_01, h0 (show (1 : Int) ≠ 0 by decide) σ' (ev_tr (ev_up M1 (by decide)) (ev_up hM (by decide))) (by rw [h10, k3.2]) h11⟩⟩
    · have k3 := (pr_nm_0 q).1
      have en : sn_ms e o p = (0, 0, o, tn e (tn e p)) := (if_neg (fun y => y c)).trans (if_neg (fun y => y k3))
      rw [en] at h1
      have s2 : sm_is σ2 o d (z + 1) := sm_k (sm_k hs M1 (by decide)) M2 (by decide)
      have M12 : ab_okM sm_M σ σ2 := ev_tr (ev_up M1 (by decide)) (ev_up M2 (by decide))
      refine fs_m_seCmp_49 hG ⟨fun _ => ⟨_, _, _, _, rfl, ⟨s2.2.2.1, by have := s2.2.2.2; omega⟩, fun v σ3 M3 e59 ev hd => fs_m_seCmp_69 hG ⟨fw_11, ?_⟩⟩, u1⟩
      exact h1 rfl _ (fw_okM_ups (ev_tr M12 (ev_up M3 (by decide))) (by decide)) (mt_ups (mt_M hm2 M3 (by decide) (by decide)) (Or.inr ⟨rfl, by decide⟩)) (sm_k (M := [(93, 62)]) (sm_s s2 M3 e59) okM_one (by decide)) (sr_l (gq_tr (gq_k M1 (by decide)) (gq_k M2 (by decide))) (Nat.le_refl 1) (sr_top (ne_g e59 hd) (by have := s2.2.2; omega) (by
        rw [ev]
        have R := rp_ms (r := (tk e p).1) (x := (tk e (tn e p)).2.2.2.2) ⟨s2.2.2.1, by have := s2.2.2; omega⟩ hw c ((tk_can e (tn e p)).2.2 k3) e59 (by rw [← e9, ← e13]; exact hd)
        exact R)))
  refine fs_m_seCmp_0 hG (isg 60 _ (by decide) (fun c => fs_m_seCmp_6 hG ⟨fun _ => g33 ⟨by omega, by omega⟩ _, u1⟩) (fun c60 => fs_m_seCmp_6 hG ⟨u0, fun _ => isg 61 _ (by decide) (fun c => fs_m_seCmp_15 hG ⟨fun _ => g33 ⟨by omega, by omega⟩ _, u1⟩) (fun c61 => fs_m_seCmp_15 hG ⟨u0, fun _ => isg 62 _ (by decide) (fun c => fs_m_seCmp_24 hG ⟨fun _ => g33 ⟨by omega, by omega⟩ _, u1⟩) (fun c62 => fs_m_seCmp_24 hG ⟨u0, fun _ => ?_⟩)⟩)⟩))
  have en : sn_ms e o p = (1, ev_st e p, o, p) := if_pos (fun y => by omega)
  rw [en] at h0
  refine mp_bad hm.1 (by decide) (fun σ' hM h10 h11 => fs_m_seCmp_32 hG ⟨fw_01, h0 (show (1 : Int) ≠ 0 by decide) σ' (ev_up hM (by decide)) ?_ h11⟩)
  rw [h10]
  split <;> rfl)
end
abbrev fk_m_seOne0 : List fw_CR := [(168, 1, true, 11, 0, sp_m_bad), (182, 0, true, 11, 1, sp_m_go), (185, 1, true, 11, 0, sp_m_isSign), (225, 1, true, 11, 2, sp_m_isWord), (261, 0, true, 11, 0, sp_m_tunes), (516, 3, true, 11, 3, sp_m_seOf), (519, 1, true, 11, 3, sp_m_seCmp)]
abbrev st_m_seOne0 : fw_K → fw_KR → fw_K := fw_st vwCl nn_sh nn_kd fw_kv fw_wc (nn_KI20.map (fun x => x.1)) (nn_KJ20.map (fun x => x.1)) (nn_PF20.map (fun x => x.1)) (nn_PS20.map (fun x => x.1)) fk_m_seOne0 5 nn_dt344 4 1
theorem fs_m_seOne0_0 {G : fw_K} {R : fw_KR} (hG : fw_cls st_m_seOne0 R G) {σ : ab_SG} (h : sp_m_isSign [(2, 93, 0), (0, 0, 40)] σ (fun rv σ2 => G 6 [some (2, 93, 0), none, none, none] (rv.toList ++ []) σ2)) : G 0 [some (2, 93, 0), none, none, none] [] σ := fw_on hG [6, 10, 21, 30, 45, 46, 64, 69, 94, 104, 118, 141, 164, 181, 184, 193, 194] 200 h
theorem fs_m_seOne0_6 {G : fw_K} {R : fw_KR} (hG : fw_cls st_m_seOne0 R G) {b0 : Int} {o1 o3 : Option ab_AV} {σ : ab_SG} (h : G 10 [some (2, 93, 0), some (0, 0, b0), some (0, 0, 9), o3] [] σ) : G 6 [some (2, 93, 0), o1, none, o3] [(0, 0, b0)] σ := fw_on hG [6, 10, 21, 30, 45, 46, 64, 69, 94, 104, 118, 141, 164, 181, 184, 193, 194] 200 h
theorem fs_m_seOne0_10 {G : fw_K} {R : fw_KR} (hG : fw_cls st_m_seOne0 R G) {a1 a2 : Int} {o3 : Option ab_AV} {σ : ab_SG} (h : (fw_c 16 < fw_c a2 → G 30 [some (2, 93, 0), some (0, 0, a1), some (0, 0, a2), o3] [] σ) ∧ (fw_c a2 ≤ fw_c 16 → sp_m_isWord [(2, 93, 0), (0, 0, a2)] σ (fun rv σ2 => G 21 [some (2, 93, 0), some (0, 0, a1), some (0, 0, a2), o3] (rv.toList ++ []) σ2))) : G 10 [some (2, 93, 0), some (0, 0, a1), some (0, 0, a2), o3] [] σ := fw_on hG [6, 10, 21, 30, 45, 46, 64, 69, 94, 104, 118, 141, 164, 181, 184, 193, 194] 200 h
theorem fs_m_seOne0_30 {G : fw_K} {R : fw_KR} (hG : fw_cls st_m_seOne0 R G) {a1 a2 : Int} {o3 : Option ab_AV} {σ : ab_SG} (h : (fw_c a1 ≠ 0 → G 46 [some (2, 93, 0), some (0, 0, a1), some (0, 0, a2), o3] [] σ) ∧ (fw_c a1 = 0 → (fw_c a2 ≤ fw_c 16 → G 46 [some (2, 93, 0), some (0, 0, a1), some (0, 0, a2), o3] [] σ) ∧ (fw_c 16 < fw_c a2 → sp_m_bad [(2, 93, 0), (0, 0, 1)] σ (fun rv σ2 => G 45 [some (2, 93, 0), some (0, 0, a1), some (0, 0, a2), o3] (rv.toList ++ []) σ2)))) : G 30 [some (2, 93, 0), some (0, 0, a1), some (0, 0, a2), o3] [] σ := fw_on hG [6, 10, 21, 30, 45, 46, 64, 69, 94, 104, 118, 141, 164, 181, 184, 193, 194] 200 h
theorem fs_m_seOne0_21 {G : fw_K} {R : fw_KR} (hG : fw_cls st_m_seOne0 R G) {a1 a2 b0 : Int} {o3 : Option ab_AV} {σ : ab_SG} (h : (fw_c b0 ≠ 0 → G 30 [some (2, 93, 0), some (0, 0, a1), some (0, 0, a2), o3] [] σ) ∧ (fw_c b0 = 0 → G 10 [some (2, 93, 0), some (0, 0, a1), some (0, 0, a2 + 1), o3] [] σ)) : G 21 [some (2, 93, 0), some (0, 0, a1), some (0, 0, a2), o3] [(0, 0, b0)] σ := fw_on hG [6, 10, 21, 30, 45, 46, 64, 69, 94, 104, 118, 141, 164, 181, 184, 193, 194] 200 h
theorem fs_m_seOne0_46 {G : fw_K} {R : fw_KR} (hG : fw_cls st_m_seOne0 R G) {a1 a2 : Int} {o3 : Option ab_AV} {σ : ab_SG} (h : (fw_c (σ 93 60) = fw_c 20 → G 64 [some (2, 93, 0), some (0, 0, a1), some (0, 0, a2), o3] [] σ) ∧ (fw_c (σ 93 60) ≠ fw_c 20 → (fw_c (σ 93 61) ≠ fw_c 8 → sp_m_go [(2, 93, 0)] (ab_ups (ab_ups σ 93 60 (fw_c ((σ 93 60) + 1))) 93 61 (fw_c ((σ 93 61) + 1))) (fun rv σ2 => G 94 [some (2, 93, 0), some (0, 0, a1), some (0, 0, a2), o3] (rv.toList ++ []) σ2)) ∧ (fw_c (σ 93 61) = fw_c 8 → G 64 [some (2, 93, 0), some (0, 0, a1), some (0, 0, a2), o3] [] σ))) : G 46 [some (2, 93, 0), some (0, 0, a1), some (0, 0, a2), o3] [] σ := fw_on hG [6, 10, 21, 30, 45, 46, 64, 69, 94, 104, 118, 141, 164, 181, 184, 193, 194] 200 h
theorem fs_m_seOne0_45 {G : fw_K} {R : fw_KR} (hG : fw_cls st_m_seOne0 R G) {a2 b0 : Int} {o1 o3 : Option ab_AV} {σ : ab_SG} (h : (0 ≤ fw_c b0 ∧ fw_c b0 ≤ 1) ∧ R (some (0, 0, b0)) σ) : G 45 [some (2, 93, 0), o1, some (0, 0, a2), o3] [(0, 0, b0)] σ := fw_on hG [6, 10, 21, 30, 45, 46, 64, 69, 94, 104, 118, 141, 164, 181, 184, 193, 194] 200 h
theorem fs_m_seOne0_64 {G : fw_K} {R : fw_KR} (hG : fw_cls st_m_seOne0 R G) {a2 : Int} {o1 o3 : Option ab_AV} {σ : ab_SG} (h : sp_m_bad [(2, 93, 0), (0, 0, 4)] σ (fun rv σ2 => G 69 [some (2, 93, 0), o1, some (0, 0, a2), o3] (rv.toList ++ []) σ2)) : G 64 [some (2, 93, 0), o1, some (0, 0, a2), o3] [] σ := fw_on hG [6, 10, 21, 30, 45, 46, 64, 69, 94, 104, 118, 141, 164, 181, 184, 193, 194] 200 h
theorem fs_m_seOne0_69 {G : fw_K} {R : fw_KR} (hG : fw_cls st_m_seOne0 R G) {a2 b0 : Int} {o1 o3 : Option ab_AV} {σ : ab_SG} (h : (0 ≤ fw_c b0 ∧ fw_c b0 ≤ 1) ∧ R (some (0, 0, b0)) σ) : G 69 [some (2, 93, 0), o1, some (0, 0, a2), o3] [(0, 0, b0)] σ := fw_on hG [6, 10, 21, 30, 45, 46, 64, 69, 94, 104, 118, 141, 164, 181, 184, 193, 194] 200 h
abbrev fk_m_seAnd0 : List fw_CR := [(182, 0, true, 11, 1, sp_m_go), (225, 1, true, 11, 2, sp_m_isWord), (498, 4, true, 11, 0, sp_m_saysOne), (501, 0, true, 11, 5, sp_m_seOne 0)]
abbrev st_m_seAnd0 : fw_K → fw_KR → fw_K := fw_st vwCl nn_sh nn_kd fw_kv fw_wc (nn_KI20.map (fun x => x.1)) (nn_KJ20.map (fun x => x.1)) (nn_PF20.map (fun x => x.1)) (nn_PS20.map (fun x => x.1)) fk_m_seAnd0 6 nn_dt343 2 1
theorem fs_m_seAnd0_0 {G : fw_K} {R : fw_KR} (hG : fw_cls st_m_seAnd0 R G) {σ : ab_SG} (h : sp_m_seOne 0 [(2, 93, 0)] σ (fun rv σ2 => G 4 [some (2, 93, 0), none] (rv.toList ++ []) σ2)) : G 0 [some (2, 93, 0), none] [] σ := fw_on hG [4, 14, 20, 27, 31, 47] 200 h
theorem fs_m_seAnd0_4 {G : fw_K} {R : fw_KR} (hG : fw_cls st_m_seAnd0 R G) {b0 : Int} {o1 : Option ab_AV} {σ : ab_SG} (h : (fw_c b0 ≠ 0 → G 14 [some (2, 93, 0), some (0, 0, σ 93 62)] [] σ) ∧ (fw_c b0 = 0 → (0 ≤ fw_c 0 ∧ fw_c 0 ≤ 1) ∧ R (some (0, 0, 0)) σ)) : G 4 [some (2, 93, 0), o1] [(0, 0, b0)] σ := fw_on hG [4, 14, 20, 27, 31, 47] 200 h
theorem fs_m_seAnd0_14 {G : fw_K} {R : fw_KR} (hG : fw_cls st_m_seAnd0 R G) {a1 : Int} {σ : ab_SG} (h : sp_m_isWord [(2, 93, 0), (0, 0, 8)] σ (fun rv σ2 => G 20 [some (2, 93, 0), some (0, 0, a1)] (rv.toList ++ []) σ2)) : G 14 [some (2, 93, 0), some (0, 0, a1)] [] σ := fw_on hG [4, 14, 20, 27, 31, 47] 200 h
theorem fs_m_seAnd0_20 {G : fw_K} {R : fw_KR} (hG : fw_cls st_m_seAnd0 R G) {a1 b0 : Int} {σ : ab_SG} (h : (fw_c b0 = 0 → (0 ≤ fw_c 1 ∧ fw_c 1 ≤ 1) ∧ R (some (0, 0, 1)) (ab_ups σ 93 62 (fw_c a1))) ∧ (fw_c b0 ≠ 0 → sp_m_go [(2, 93, 0)] σ (fun rv σ2 => G 27 [some (2, 93, 0), some (0, 0, a1)] (rv.toList ++ []) σ2))) : G 20 [some (2, 93, 0), some (0, 0, a1)] [(0, 0, b0)] σ := fw_on hG [4, 14, 20, 27, 31, 47] 200 h
theorem fs_m_seAnd0_27 {G : fw_K} {R : fw_KR} (hG : fw_cls st_m_seAnd0 R G) {a1 : Int} {σ : ab_SG} (h : sp_m_seOne 0 [(2, 93, 0)] σ (fun rv σ2 => G 31 [some (2, 93, 0), some (0, 0, a1)] (rv.toList ++ []) σ2)) : G 27 [some (2, 93, 0), some (0, 0, a1)] [] σ := fw_on hG [4, 14, 20, 27, 31, 47] 200 h
theorem fs_m_seAnd0_31 {G : fw_K} {R : fw_KR} (hG : fw_cls st_m_seAnd0 R G) {a1 b0 : Int} {σ : ab_SG} (h : (fw_c b0 ≠ 0 → sp_m_saysOne [(2, 93, 0), (0, 0, 2), (0, 0, a1), (0, 0, σ 93 62), (0, 0, 0)] σ (fun rv σ2 => G 47 [some (2, 93, 0), some (0, 0, a1)] (rv.toList ++ []) σ2)) ∧ (fw_c b0 = 0 → (0 ≤ fw_c 0 ∧ fw_c 0 ≤ 1) ∧ R (some (0, 0, 0)) σ)) : G 31 [some (2, 93, 0), some (0, 0, a1)] [(0, 0, b0)] σ := fw_on hG [4, 14, 20, 27, 31, 47] 200 h
theorem fs_m_seAnd0_47 {G : fw_K} {R : fw_KR} (hG : fw_cls st_m_seAnd0 R G) {b0 : Int} {o1 : Option ab_AV} {σ : ab_SG} (h : G 14 [some (2, 93, 0), some (0, 0, b0)] [] σ) : G 47 [some (2, 93, 0), o1] [(0, 0, b0)] σ := fw_on hG [4, 14, 20, 27, 31, 47] 200 h
abbrev fk_m_seOr0 : List fw_CR := [(182, 0, true, 11, 1, sp_m_go), (225, 1, true, 11, 2, sp_m_isWord), (492, 0, true, 11, 6, sp_m_seAnd 0), (498, 4, true, 11, 0, sp_m_saysOne)]
abbrev st_m_seOr0 : fw_K → fw_KR → fw_K := fw_st vwCl nn_sh nn_kd fw_kv fw_wc (nn_KI20.map (fun x => x.1)) (nn_KJ20.map (fun x => x.1)) (nn_PF20.map (fun x => x.1)) (nn_PS20.map (fun x => x.1)) fk_m_seOr0 7 nn_dt342 2 1
theorem fs_m_seOr0_0 {G : fw_K} {R : fw_KR} (hG : fw_cls st_m_seOr0 R G) {σ : ab_SG} (h : sp_m_seAnd 0 [(2, 93, 0)] σ (fun rv σ2 => G 4 [some (2, 93, 0), none] (rv.toList ++ []) σ2)) : G 0 [some (2, 93, 0), none] [] σ := fw_on hG [4, 14, 20, 27, 31, 47] 200 h
theorem fs_m_seOr0_4 {G : fw_K} {R : fw_KR} (hG : fw_cls st_m_seOr0 R G) {b0 : Int} {o1 : Option ab_AV} {σ : ab_SG} (h : (fw_c b0 ≠ 0 → G 14 [some (2, 93, 0), some (0, 0, σ 93 62)] [] σ) ∧ (fw_c b0 = 0 → (0 ≤ fw_c 0 ∧ fw_c 0 ≤ 1) ∧ R (some (0, 0, 0)) σ)) : G 4 [some (2, 93, 0), o1] [(0, 0, b0)] σ := fw_on hG [4, 14, 20, 27, 31, 47] 200 h
theorem fs_m_seOr0_14 {G : fw_K} {R : fw_KR} (hG : fw_cls st_m_seOr0 R G) {a1 : Int} {σ : ab_SG} (h : sp_m_isWord [(2, 93, 0), (0, 0, 7)] σ (fun rv σ2 => G 20 [some (2, 93, 0), some (0, 0, a1)] (rv.toList ++ []) σ2)) : G 14 [some (2, 93, 0), some (0, 0, a1)] [] σ := fw_on hG [4, 14, 20, 27, 31, 47] 200 h
theorem fs_m_seOr0_20 {G : fw_K} {R : fw_KR} (hG : fw_cls st_m_seOr0 R G) {a1 b0 : Int} {σ : ab_SG} (h : (fw_c b0 = 0 → (0 ≤ fw_c 1 ∧ fw_c 1 ≤ 1) ∧ R (some (0, 0, 1)) (ab_ups σ 93 62 (fw_c a1))) ∧ (fw_c b0 ≠ 0 → sp_m_go [(2, 93, 0)] σ (fun rv σ2 => G 27 [some (2, 93, 0), some (0, 0, a1)] (rv.toList ++ []) σ2))) : G 20 [some (2, 93, 0), some (0, 0, a1)] [(0, 0, b0)] σ := fw_on hG [4, 14, 20, 27, 31, 47] 200 h
theorem fs_m_seOr0_27 {G : fw_K} {R : fw_KR} (hG : fw_cls st_m_seOr0 R G) {a1 : Int} {σ : ab_SG} (h : sp_m_seAnd 0 [(2, 93, 0)] σ (fun rv σ2 => G 31 [some (2, 93, 0), some (0, 0, a1)] (rv.toList ++ []) σ2)) : G 27 [some (2, 93, 0), some (0, 0, a1)] [] σ := fw_on hG [4, 14, 20, 27, 31, 47] 200 h
theorem fs_m_seOr0_31 {G : fw_K} {R : fw_KR} (hG : fw_cls st_m_seOr0 R G) {a1 b0 : Int} {σ : ab_SG} (h : (fw_c b0 ≠ 0 → sp_m_saysOne [(2, 93, 0), (0, 0, 3), (0, 0, a1), (0, 0, σ 93 62), (0, 0, 0)] σ (fun rv σ2 => G 47 [some (2, 93, 0), some (0, 0, a1)] (rv.toList ++ []) σ2)) ∧ (fw_c b0 = 0 → (0 ≤ fw_c 0 ∧ fw_c 0 ≤ 1) ∧ R (some (0, 0, 0)) σ)) : G 31 [some (2, 93, 0), some (0, 0, a1)] [(0, 0, b0)] σ := fw_on hG [4, 14, 20, 27, 31, 47] 200 h
theorem fs_m_seOr0_47 {G : fw_K} {R : fw_KR} (hG : fw_cls st_m_seOr0 R G) {b0 : Int} {o1 : Option ab_AV} {σ : ab_SG} (h : G 14 [some (2, 93, 0), some (0, 0, b0)] [] σ) : G 47 [some (2, 93, 0), o1] [(0, 0, b0)] σ := fw_on hG [4, 14, 20, 27, 31, 47] 200 h
abbrev fk_m_seBr0 : List fw_CR := [(168, 1, true, 11, 0, sp_m_bad), (182, 0, true, 11, 1, sp_m_go), (185, 1, true, 11, 0, sp_m_isSign), (522, 0, true, 11, 7, sp_m_seOr 0)]
abbrev st_m_seBr0 : fw_K → fw_KR → fw_K := fw_st vwCl nn_sh nn_kd fw_kv fw_wc (nn_KI20.map (fun x => x.1)) (nn_KJ20.map (fun x => x.1)) (nn_PF20.map (fun x => x.1)) (nn_PS20.map (fun x => x.1)) fk_m_seBr0 8 nn_dt345 1 1
theorem fs_m_seBr0_0 {G : fw_K} {R : fw_KR} (hG : fw_cls st_m_seBr0 R G) {σ : ab_SG} (h : sp_m_seOr 0 [(2, 93, 0)] σ (fun rv σ2 => G 4 [some (2, 93, 0)] (rv.toList ++ []) σ2)) : G 0 [some (2, 93, 0)] [] σ := fw_on hG [4, 15, 23, 28] 200 h
theorem fs_m_seBr0_4 {G : fw_K} {R : fw_KR} (hG : fw_cls st_m_seBr0 R G) {b0 : Int} {σ : ab_SG} (h : (fw_c b0 ≠ 0 → sp_m_isSign [(2, 93, 0), (0, 0, 41)] σ (fun rv σ2 => G 15 [some (2, 93, 0)] (rv.toList ++ []) σ2)) ∧ (fw_c b0 = 0 → (0 ≤ fw_c 0 ∧ fw_c 0 ≤ 1) ∧ R (some (0, 0, 0)) σ)) : G 4 [some (2, 93, 0)] [(0, 0, b0)] σ := fw_on hG [4, 15, 23, 28] 200 h
theorem fs_m_seBr0_15 {G : fw_K} {R : fw_KR} (hG : fw_cls st_m_seBr0 R G) {b0 : Int} {σ : ab_SG} (h : (fw_c b0 ≠ 0 → sp_m_go [(2, 93, 0)] σ (fun rv σ2 => G 28 [some (2, 93, 0)] (rv.toList ++ []) σ2)) ∧ (fw_c b0 = 0 → sp_m_bad [(2, 93, 0), (0, 0, 1)] σ (fun rv σ2 => G 23 [some (2, 93, 0)] (rv.toList ++ []) σ2))) : G 15 [some (2, 93, 0)] [(0, 0, b0)] σ := fw_on hG [4, 15, 23, 28] 200 h
theorem fs_m_seBr0_28 {G : fw_K} {R : fw_KR} (hG : fw_cls st_m_seBr0 R G) {σ : ab_SG} (h : (0 ≤ fw_c 1 ∧ fw_c 1 ≤ 1) ∧ R (some (0, 0, 1)) σ) : G 28 [some (2, 93, 0)] [] σ := fw_on hG [4, 15, 23, 28] 200 h
theorem fs_m_seBr0_23 {G : fw_K} {R : fw_KR} (hG : fw_cls st_m_seBr0 R G) {b0 : Int} {σ : ab_SG} (h : (0 ≤ fw_c b0 ∧ fw_c b0 ≤ 1) ∧ R (some (0, 0, b0)) σ) : G 23 [some (2, 93, 0)] [(0, 0, b0)] σ := fw_on hG [4, 15, 23, 28] 200 h
abbrev fk_m_seNot0 : List fw_CR := [(498, 4, true, 11, 0, sp_m_saysOne), (501, 0, true, 11, 5, sp_m_seOne 0)]
abbrev st_m_seNot0 : fw_K → fw_KR → fw_K := fw_st vwCl nn_sh nn_kd fw_kv fw_wc (nn_KI20.map (fun x => x.1)) (nn_KJ20.map (fun x => x.1)) (nn_PF20.map (fun x => x.1)) (nn_PS20.map (fun x => x.1)) fk_m_seNot0 6 nn_dt346 1 1
theorem fs_m_seNot0_0 {G : fw_K} {R : fw_KR} (hG : fw_cls st_m_seNot0 R G) {σ : ab_SG} (h : sp_m_seOne 0 [(2, 93, 0)] σ (fun rv σ2 => G 4 [some (2, 93, 0)] (rv.toList ++ []) σ2)) : G 0 [some (2, 93, 0)] [] σ := fw_on hG [4, 21] 200 h
theorem fs_m_seNot0_4 {G : fw_K} {R : fw_KR} (hG : fw_cls st_m_seNot0 R G) {b0 : Int} {σ : ab_SG} (h : (fw_c b0 ≠ 0 → sp_m_saysOne [(2, 93, 0), (0, 0, 1), (0, 0, σ 93 62), (0, 0, 0), (0, 0, 0)] σ (fun rv σ2 => G 21 [some (2, 93, 0)] (rv.toList ++ [(2, 93, 0)]) σ2)) ∧ (fw_c b0 = 0 → (0 ≤ fw_c 0 ∧ fw_c 0 ≤ 1) ∧ R (some (0, 0, 0)) σ)) : G 4 [some (2, 93, 0)] [(0, 0, b0)] σ := fw_on hG [4, 21] 200 h
theorem fs_m_seNot0_21 {G : fw_K} {R : fw_KR} (hG : fw_cls st_m_seNot0 R G) {b0 : Int} {σ : ab_SG} (h : (0 ≤ fw_c 1 ∧ fw_c 1 ≤ 1) ∧ R (some (0, 0, 1)) (ab_ups σ 93 62 (fw_c b0))) : G 21 [some (2, 93, 0)] [(0, 0, b0), (2, 93, 0)] σ := fw_on hG [4, 21] 200 h
section
variable {l : Launch} {cy : Nat → ClassId} {ad wr cr : Nat → Nat} {D : va_G}
theorem fm_m_seOne0 (hinj : nn_inj ad) : fw_H l cy ad wr cr D 344 5 (sp_m_seOne 0) := fw_mk hinj (⟨"NameNotesModel", "readOne", "()Z"⟩, prog_14_method_142_code, 4, (Option.some Jvm.ClassFile.FieldType.boolean), 0, true, 1) rfl rfl nn_KI20_ok nn_KJ20_ok nn_PF20_ok nn_PS20_ok (by decide +kernel) rfl rfl (List.forall_mem_cons.mpr ⟨fw_row nn_PM20_ok (x := 168) (k := 0) (mn := 221) (np := 1) (ob := true) (ci := 11) (⟨"NameNotesModel", "bad", "(I)Z"⟩, prog_14_method_23_code, 2, (Option.some Jvm.ClassFile.FieldType.boolean), 1, true, 1) rfl (by decide +kernel) rfl rfl (by decide) (fun _ => ⟨_, _, rfl⟩) (fm_m_bad hinj), (List.forall_mem_cons.mpr ⟨fw_row nn_PM20_ok (x := 182) (k := 0) (mn := 212) (np := 0) (ob := true) (ci := 11) (⟨"NameNotesModel", "go", "()V"⟩, prog_14_method_17_code, 5, (Option.none : Option Jvm.ClassFile.FieldType), 0, true, 4) rfl (by decide +kernel) rfl rfl (by decide) (fun _ => ⟨_, _, rfl⟩) (fm_m_go hinj), (List.forall_mem_cons.mpr ⟨fw_row nn_PM20_ok (x := 185) (k := 0) (mn := 236) (np := 1) (ob := true) (ci := 11) (⟨"NameNotesModel", "isSign", "(I)Z"⟩, prog_14_method_21_code, 2, (Option.some Jvm.ClassFile.FieldType.boolean), 1, true, 1) rfl (by decide +kernel) rfl rfl (by decide) (fun _ => ⟨_, _, rfl⟩) (fm_m_isSign hinj), (List.forall_mem_cons.mpr ⟨fw_row nn_PM20_ok (x := 225) (k := 0) (mn := 217) (np := 1) (ob := true) (ci := 11) (⟨"NameNotesModel", "isWord", "(I)Z"⟩, prog_14_method_20_code, 2, (Option.some Jvm.ClassFile.FieldType.boolean), 1, true, 1) rfl (by decide +kernel) rfl rfl (by decide) (fun _ => ⟨_, _, rfl⟩) (fm_m_isWord hinj), (List.forall_mem_cons.mpr ⟨fw_row nn_PM20_ok (x := 261) (k := 0) (mn := 240) (np := 0) (ob := true) (ci := 11) (⟨"NameNotesModel", "tunes", "()I"⟩, prog_14_method_41_code, 1, (Option.some Jvm.ClassFile.FieldType.int), 0, true, 0) rfl (by decide +kernel) rfl rfl (by decide) (fun _ => ⟨_, _, rfl⟩) (fm_m_tunes hinj), (List.forall_mem_cons.mpr ⟨fw_row nn_PM20_ok (x := 516) (k := 0) (mn := 348) (np := 3) (ob := true) (ci := 11) (⟨"NameNotesModel", "readOf", "(III)Z"⟩, prog_14_method_145_code, 5, (Option.some Jvm.ClassFile.FieldType.boolean), 3, true, 1) rfl (by decide +kernel) rfl rfl (by decide) (fun _ => ⟨_, _, rfl⟩) (fm_m_seOf hinj), (List.forall_mem_cons.mpr ⟨fw_row nn_PM20_ok (x := 519) (k := 0) (mn := 349) (np := 1) (ob := true) (ci := 11) (⟨"NameNotesModel", "readCompare", "(I)Z"⟩, prog_14_method_146_code, 3, (Option.some Jvm.ClassFile.FieldType.boolean), 1, true, 1) rfl (by decide +kernel) rfl rfl (by decide) (fun _ => ⟨_, _, rfl⟩) (fm_m_seCmp hinj), (fun _ h => absurd h List.not_mem_nil)⟩)⟩)⟩)⟩)⟩)⟩)⟩) (fun as σ K h => by
  obtain ⟨A, e, p, o, z, rfl, ⟨hN, hm, hs, ho⟩, h0, h1⟩ := h
  have c16 : fw_c 16 = 16 := fw_s (by decide) (by decide)
  have c20 : fw_c 20 = 20 := fw_s (by decide) (by decide)
  have c8 : fw_c 8 = 8 := fw_s (by decide) (by decide)
  have c60 : fw_c (σ 93 60) = (o : Int) := by rw [hs.1]; exact fw_s (by omega) (by omega)
  have c61 : fw_c (σ 93 61) = ((8 - 0 : Nat) : Int) := by rw [hs.2.1]; exact fw_s (by decide) (by decide)
  have u0 : ∀ {X : Prop}, fw_c 0 ≠ 0 → X := fun z => absurd fw_c0 z
  have u1 : ∀ {X : Prop}, fw_c 1 = 0 → X := fun z => absurd (fw_c1.symm.trans z) (by decide)
  have n40 : (tk e p).1 = 40 → ¬ (9 ≤ tw e p ∧ tw e p ≤ 16) := fun z y => by
    have := tw_k (e := e) (p := p) (by omega)
    omega
  refine ⟨rfl, fun G hG => ?_⟩
  -- too many, too deep
  have g64 : sn_st e p → sn_one A e 0 o p = (4, ev_st e p, o, p) → ∀ (o1 o3 : Option ab_AV) (w : Int), G 64 [some (2, 93, 0), o1, some (0, 0, w), o3] [] σ := fun y en o1 o3 w => by
    rw [en] at h0
    refine fs_m_seOne0_64 hG (mp_bad hm.1 (by decide) (fun σ' hM h10 h11 => fs_m_seOne0_69 hG ⟨fw_01, h0 (show (4 : Int) ≠ 0 by decide) σ' (ev_up hM (by decide)) ?_ h11⟩))
    have k : ¬ σ 93 7 = 1 := fun q => by
      have g := (mg_kind hm.1).2.2.1.mp q
      rcases y with y | y
      · omega
      · have := tw_k (e := e) (p := p) (by omega)
        omega
    rw [h10, if_neg k]
  have g46 : ∀ (b w : Int) (o3 : Option ab_AV), sn_st e p → ((b = 1 ∧ (tk e p).1 = 40) ∨ (b = 0 ∧ (tk e p).1 ≠ 40 ∧ w = tw e p)) → (0 ≤ w ∧ w ≤ 17) → G 46 [some (2, 93, 0), some (0, 0, b), some (0, 0, w), o3] [] σ := by
    intro b w o3 y hb hw
    refine fs_m_seOne0_46 hG ?_
    rw [c60, c61, c20, c8]
    have en : sn_one A e 0 o p = (4, ev_st e p, o, p) := if_pos y
    exact ⟨fun _ => g64 y en _ o3 w, fun _ => ⟨fun q => absurd (by decide) q, fun _ => g64 y en _ o3 w⟩⟩
  have g30 : ∀ (b w : Int) (o3 : Option ab_AV), ((b = 1 ∧ (tk e p).1 = 40) ∨ (b = 0 ∧ (tk e p).1 ≠ 40)) → ((w = tw e p ∧ 9 ≤ w ∧ w ≤ 16) ∨ (w = 17 ∧ ¬ (9 ≤ tw e p ∧ tw e p ≤ 16))) → G 30 [some (2, 93, 0), some (0, 0, b), some (0, 0, w), o3] [] σ := by
    intro b w o3 hb hw
    have cw : fw_c w = w := fw_s (by omega) (by omega)
    refine fs_m_seOne0_30 hG ?_
    rw [cw, c16]
    refine ⟨fun q => ?_, fun q => ⟨fun q2 => ?_, fun q2 => ?_⟩⟩
    · rcases hb with ⟨b1, k⟩ | ⟨b0, -⟩
      · exact g46 b w o3 (Or.inl k) (Or.inl ⟨b1, k⟩) ⟨by omega, by omega⟩
      · rw [b0] at q
        exact u0 q
    · rcases hb with ⟨b1, -⟩ | ⟨b0, k⟩
      · rw [b1] at q
        exact u1 q
      · exact g46 b w o3 (Or.inr ⟨by omega, by omega⟩) (Or.inr ⟨b0, k, by omega⟩) ⟨by omega, by omega⟩
    · rcases hb with ⟨b1, -⟩ | ⟨b0, k⟩
      · rw [b1] at q
        exact u1 q
      · have ns : ¬ sn_st e p := fun y => by
          rcases y with y | y
          · exact k y
          · omega
        have en : sn_one A e 0 o p = (1, ev_st e p, o, p) := if_neg ns
        rw [en] at h0
        refine mp_bad hm.1 (by decide) (fun σ' hM h10 h11 => fs_m_seOne0_45 hG ⟨fw_01, h0 (show (1 : Int) ≠ 0 by decide) σ' (ev_up hM (by decide)) ?_ h11⟩)
        rw [h10]
        split <;> rfl
  have lw : ∀ (f w : Nat) (b : Int) (o3 : Option ab_AV), w + f = 17 → 9 ≤ w → (∀ v : Nat, 9 ≤ v → v < w → tw e p ≠ (v : Int)) → ((b = 1 ∧ (tk e p).1 = 40) ∨ (b = 0 ∧ (tk e p).1 ≠ 40)) → G 10 [some (2, 93, 0), some (0, 0, b), some (0, 0, (w : Int)), o3] [] σ := by
    intro f
    induction f with
    | zero =>
      intro w b o3 hf h9 hv hb
      have ew : w = 17 := by omega
      subst ew
      refine fs_m_seOne0_10 hG ⟨fun _ => g30 b _ o3 hb (Or.inr ⟨rfl, fun y => ?_⟩), fun q => absurd q (by rw [c16]; decide)⟩
      have := hv (tw e p).toNat (by omega) (by omega)
      omega
    | succ f ih =>
      intro w b o3 hf h9 hv hb
      have cw : fw_c (w : Int) = (w : Int) := fw_s (by omega) (by omega)
      refine fs_m_seOne0_10 hG ⟨fun q => absurd q (by rw [c16, cw]; omega), fun _ => ⟨w, e, p, rfl, by omega, hm.1, ?_⟩⟩
      by_cases c : tw e p = (w : Int)
      · rw [fw_bo_t c]
        exact fs_m_seOne0_21 hG ⟨fun _ => g30 b _ o3 hb (Or.inl ⟨c.symm, by omega, by omega⟩), u1⟩
      · rw [fw_bo_f c]
        refine fs_m_seOne0_21 hG ⟨u0, fun _ => ?_⟩
        have g := ih (w + 1) b o3 (by omega) (by omega) (fun v h1 h2 => by
          by_cases y : v = w
          · rw [y]
            exact c
          · exact hv v h1 (by omega)) hb
        rw [show ((w + 1 : Nat) : Int) = (w : Int) + 1 from rfl] at g
        exact g
  refine fs_m_seOne0_0 hG ⟨40, e, p, rfl, Or.inr (Or.inr (Or.inl rfl)), hm.1, ?_⟩
  by_cases c : (tk e p).1 = 40
  · rw [fw_bo_t c]
    exact fs_m_seOne0_6 hG (lw 8 9 1 _ rfl (by decide) (fun v h1 h2 => by omega) (Or.inl ⟨rfl, c⟩))
  · rw [fw_bo_f c]
    exact fs_m_seOne0_6 hG (lw 8 9 0 _ rfl (by decide) (fun v h1 h2 => by omega) (Or.inr ⟨rfl, c⟩)))
theorem fm_m_seNot0 (hinj : nn_inj ad) : fw_H l cy ad wr cr D 346 6 (sp_m_seNot 0) := fw_mk hinj (⟨"NameNotesModel", "readNot", "()Z"⟩, prog_14_method_143_code, 1, (Option.some Jvm.ClassFile.FieldType.boolean), 0, true, 1) rfl rfl nn_KI20_ok nn_KJ20_ok nn_PF20_ok nn_PS20_ok (by decide +kernel) rfl rfl (List.forall_mem_cons.mpr ⟨fw_row nn_PM20_ok (x := 498) (k := 0) (mn := 347) (np := 4) (ob := true) (ci := 11) (⟨"NameNotesModel", "saysOne", "(IIII)I"⟩, prog_14_method_139_code, 6, (Option.some Jvm.ClassFile.FieldType.int), 4, true, 0) rfl (by decide +kernel) rfl rfl (by decide) (fun _ => ⟨_, _, rfl⟩) (fm_m_saysOne hinj), (List.forall_mem_cons.mpr ⟨fw_row nn_PM20_ok (x := 501) (k := 0) (mn := 344) (np := 0) (ob := true) (ci := 11) (⟨"NameNotesModel", "readOne", "()Z"⟩, prog_14_method_142_code, 4, (Option.some Jvm.ClassFile.FieldType.boolean), 0, true, 1) rfl (by decide +kernel) rfl rfl (by decide) (fun _ => ⟨_, _, rfl⟩) (fm_m_seOne0 hinj), (fun _ h => absurd h List.not_mem_nil)⟩)⟩) (fun as σ K h => by
  obtain ⟨A, e, p, o, z, rfl, hp, h0, h1⟩ := h
  have u0 : ∀ {X : Prop}, fw_c 0 ≠ 0 → X := fun z => absurd fw_c0 z
  have u1 : ∀ {X : Prop}, fw_c 1 = 0 → X := fun z => absurd (fw_c1.symm.trans z) (by decide)
  refine ⟨rfl, fun G hG => fs_m_seNot0_0 hG ⟨A, e, p, o, z, rfl, hp, fun q σ' M a b => fs_m_seNot0_4 hG ⟨u0, fun _ => ⟨fw_01, h0 q σ' M a b⟩⟩, fun q σ1 M1 hm1 s1 R1 => fs_m_seNot0_4 hG ⟨fun _ => ⟨_, _, _, _, rfl, ⟨s1.2.2.1, ?_⟩, fun v σ2 M2 e59 ev hd => fs_m_seNot0_21 hG ⟨fw_11, ?_⟩⟩, u1⟩⟩⟩
  · have gr := (sn_one_gr A e 0 o p hp.2.2.2 q).2
    have := s1.2.2.2
    omega
  · exact h1 q _ (fw_okM_ups (ev_tr M1 (ev_up M2 (by decide))) (by decide)) (mt_ups (mt_M hm1 M2 (by decide) (by decide)) (Or.inr ⟨rfl, by decide⟩)) (sm_k (M := [(93, 62)]) (sm_s s1 M2 e59) okM_one (by decide)) (by
      have gr := (sn_one_gr A e 0 o p hp.2.2.2 q).2
      have b59 := s1.2.2
      refine sr_top (gq_tr R1.1 (ne_g e59 hd)) (by omega) ?_
      rw [ev]
      exact rp_not ⟨b59.1, by omega⟩ R1.2 e59 hd))
theorem fm_m_seAnd0 (hinj : nn_inj ad) : fw_H l cy ad wr cr D 343 6 (sp_m_seAnd 0) := fw_mk hinj (⟨"NameNotesModel", "readAnd", "()Z"⟩, prog_14_method_141_code, 2, (Option.some Jvm.ClassFile.FieldType.boolean), 0, true, 1) rfl rfl nn_KI20_ok nn_KJ20_ok nn_PF20_ok nn_PS20_ok (by decide +kernel) rfl rfl (List.forall_mem_cons.mpr ⟨fw_row nn_PM20_ok (x := 182) (k := 0) (mn := 212) (np := 0) (ob := true) (ci := 11) (⟨"NameNotesModel", "go", "()V"⟩, prog_14_method_17_code, 5, (Option.none : Option Jvm.ClassFile.FieldType), 0, true, 4) rfl (by decide +kernel) rfl rfl (by decide) (fun _ => ⟨_, _, rfl⟩) (fm_m_go hinj), (List.forall_mem_cons.mpr ⟨fw_row nn_PM20_ok (x := 225) (k := 0) (mn := 217) (np := 1) (ob := true) (ci := 11) (⟨"NameNotesModel", "isWord", "(I)Z"⟩, prog_14_method_20_code, 2, (Option.some Jvm.ClassFile.FieldType.boolean), 1, true, 1) rfl (by decide +kernel) rfl rfl (by decide) (fun _ => ⟨_, _, rfl⟩) (fm_m_isWord hinj), (List.forall_mem_cons.mpr ⟨fw_row nn_PM20_ok (x := 498) (k := 0) (mn := 347) (np := 4) (ob := true) (ci := 11) (⟨"NameNotesModel", "saysOne", "(IIII)I"⟩, prog_14_method_139_code, 6, (Option.some Jvm.ClassFile.FieldType.int), 4, true, 0) rfl (by decide +kernel) rfl rfl (by decide) (fun _ => ⟨_, _, rfl⟩) (fm_m_saysOne hinj), (List.forall_mem_cons.mpr ⟨fw_row nn_PM20_ok (x := 501) (k := 0) (mn := 344) (np := 0) (ob := true) (ci := 11) (⟨"NameNotesModel", "readOne", "()Z"⟩, prog_14_method_142_code, 4, (Option.some Jvm.ClassFile.FieldType.boolean), 0, true, 1) rfl (by decide +kernel) rfl rfl (by decide) (fun _ => ⟨_, _, rfl⟩) (fm_m_seOne0 hinj), (fun _ h => absurd h List.not_mem_nil)⟩)⟩)⟩)⟩) (fun as σ K h => by
  obtain ⟨A, e, p, o, z, g, rfl, ⟨hN, hm, hs, ho⟩, hg, h⟩ := h
  obtain ⟨h0, h1⟩ := h _ rfl
  have u0 : ∀ {X : Prop}, fw_c 0 ≠ 0 → X := fun z => absurd fw_c0 z
  have u1 : ∀ {X : Prop}, fw_c 1 = 0 → X := fun z => absurd (fw_c1.symm.trans z) (by decide)
  have og := sn_one_gr A e 0
  refine ⟨rfl, fun G hG => fs_m_seAnd0_0 hG ⟨A, e, p, o, z, rfl, ⟨hN, hm, hs, ho⟩, fun q σ' M a b => fs_m_seAnd0_4 hG ⟨u0, fun _ => ⟨fw_01, ?_⟩⟩, fun q σ1 M1 hm1 s1 R1 => fs_m_seAnd0_4 hG ⟨fun _ => ?_, u1⟩⟩⟩
  · rw [if_pos q] at h0
    exact h0 q σ' M a b
  · rw [if_neg (fun u => u q)] at h0 h1
    have gr := og o p ho q
    have loop : ∀ (f g1 o1 p1 : Nat) (τ : ab_SG) (a1 : Int) (LA : sl_T), 20 < f + o1 → 21 ≤ g1 + o1 → o + 1 ≤ o1 → o1 ≤ 20 → ab_okM sm_M σ τ → mt_is τ e p1 → sm_is τ o1 (8 - 0) (z + 1) → gq σ τ → rp (τ 121) (τ 93 59) (o1 - o) a1 LA → (∀ w : Bool, sl_one A e 0 o p ++ sl_lp (sn_one A e 0) (sl_one A e 0) e g w (sn_one A e 0 o p).2.2.1 (sn_one A e 0 o p).2.2.2 = LA ++ sl_lp (sn_one A e 0) (sl_one A e 0) e g1 w o1 p1) → sn_lp (sn_one A e 0) e g (sn_one A e 0 o p).2.2.1 (sn_one A e 0 o p).2.2.2 = sn_lp (sn_one A e 0) e g1 o1 p1 → G 14 [some (2, 93, 0), some (0, 0, a1)] [] τ := by
      intro f
      induction f with
      | zero =>
        intro g1 o1 p1 τ a1 LA hf _ _ h20 _ _ _ _ _ _ _
        omega
      | succ f ih =>
        intro g1 o1 p1 τ a1 LA hf hg1 ho1 h20 M hm' s' Q R hw hr
        refine fs_m_seAnd0_14 hG ⟨8, e, p1, rfl, by decide, hm'.1, ?_⟩
        show G 20 _ [(0, 0, fw_bo (tw e p1 = ((8 : Nat) : Int)))] τ
        by_cases c : tw e p1 = ((8 : Nat) : Int)
        · rw [fw_bo_t c]
          replace c : tw e p1 = 8 := c
          obtain ⟨g2, rfl⟩ : ∃ g2, g1 = g2 + 1 := ⟨g1 - 1, by omega⟩
          rw [sn_lps, if_pos (Or.inl c)] at hr
          refine fs_m_seAnd0_20 hG ⟨u1, fun _ => mt_go hm' (fun τ2 N2 hm2 => fs_m_seAnd0_27 hG ?_)⟩
          have M2 : ab_okM sm_M σ τ2 := ev_tr M (ev_up N2 (by decide))
          refine ⟨A, e, tn e p1, o1, z + 1, rfl, ⟨sm_NM M2 hN, hm2, sm_k s' N2 (by decide), h20⟩, fun q2 σ' M' a b => fs_m_seAnd0_31 hG ⟨u0, fun _ => ⟨fw_01, ?_⟩⟩, fun q2 τ3 M3 hm3 s3 R3 => fs_m_seAnd0_31 hG ⟨fun _ => ?_, u1⟩⟩
          · rw [if_pos q2] at hr
            rw [hr] at h0
            exact h0 q2 σ' (ev_tr M2 M') a b
          · rw [if_neg (fun u => u q2)] at hr
            have gr2 := og o1 (tn e p1) h20 q2
            have b59 := s3.2.2
            have Q3 : gq τ τ3 := gq_tr (gq_k N2 (by decide)) R3.1
            exact ⟨_, _, _, _, rfl, ⟨s3.2.2.1, by have := s3.2.2.2; omega⟩, fun v τ4 M4 e59 ev hd => fs_m_seAnd0_47 hG (ih g2 _ _ τ4 v (LA ++ (sl_one A e 0 o1 (tn e p1) ++ [(1, 0)])) (by omega) (by omega) (by omega) gr2.2 (ev_tr (ev_tr M2 M3) (ev_up M4 (by decide))) (mt_M hm3 M4 (by decide) (by decide)) (sm_s s3 M4 e59) (gq_tr (gq_tr Q Q3) (ne_g e59 hd)) (by
              rw [ev]
              exact rp_and (h := (sn_one A e 0 o1 (tn e p1)).2.2.1 - o) ⟨b59.1, by omega⟩ (rp_g Q3 (Nat.le_refl _) R) R3.2 e59 hd (by omega) (by omega)) (fun w => by
              rw [hw w, sl_lps, if_pos c, List.append_assoc, List.append_assoc]) hr)⟩
        · rw [fw_bo_f c]
          exact fs_m_seAnd0_20 hG ⟨fun _ => ⟨fw_11, h1 g1 o1 p1 _ hr c hg1 ho1 h20 (fw_okM_ups M (by decide)) (mt_ups hm' (Or.inr ⟨rfl, by decide⟩)) (sm_k (M := [(93, 62)]) s' okM_one (by decide)) LA hw (sr_top Q (by have := s'.2.2; omega) R)⟩, u0⟩
    exact loop 21 g _ _ σ1 _ _ (by omega) (by omega) gr.1 gr.2 M1 hm1 s1 R1.1 R1.2 (fun _ => rfl) rfl)
theorem fm_m_seOr0 (hinj : nn_inj ad) : fw_H l cy ad wr cr D 342 7 (sp_m_seOr 0) := fw_mk hinj (⟨"NameNotesModel", "readOr", "()Z"⟩, prog_14_method_140_code, 2, (Option.some Jvm.ClassFile.FieldType.boolean), 0, true, 1) rfl rfl nn_KI20_ok nn_KJ20_ok nn_PF20_ok nn_PS20_ok (by decide +kernel) rfl rfl (List.forall_mem_cons.mpr ⟨fw_row nn_PM20_ok (x := 182) (k := 0) (mn := 212) (np := 0) (ob := true) (ci := 11) (⟨"NameNotesModel", "go", "()V"⟩, prog_14_method_17_code, 5, (Option.none : Option Jvm.ClassFile.FieldType), 0, true, 4) rfl (by decide +kernel) rfl rfl (by decide) (fun _ => ⟨_, _, rfl⟩) (fm_m_go hinj), (List.forall_mem_cons.mpr ⟨fw_row nn_PM20_ok (x := 225) (k := 0) (mn := 217) (np := 1) (ob := true) (ci := 11) (⟨"NameNotesModel", "isWord", "(I)Z"⟩, prog_14_method_20_code, 2, (Option.some Jvm.ClassFile.FieldType.boolean), 1, true, 1) rfl (by decide +kernel) rfl rfl (by decide) (fun _ => ⟨_, _, rfl⟩) (fm_m_isWord hinj), (List.forall_mem_cons.mpr ⟨fw_row nn_PM20_ok (x := 492) (k := 0) (mn := 343) (np := 0) (ob := true) (ci := 11) (⟨"NameNotesModel", "readAnd", "()Z"⟩, prog_14_method_141_code, 2, (Option.some Jvm.ClassFile.FieldType.boolean), 0, true, 1) rfl (by decide +kernel) rfl rfl (by decide) (fun _ => ⟨_, _, rfl⟩) (fm_m_seAnd0 hinj), (List.forall_mem_cons.mpr ⟨fw_row nn_PM20_ok (x := 498) (k := 0) (mn := 347) (np := 4) (ob := true) (ci := 11) (⟨"NameNotesModel", "saysOne", "(IIII)I"⟩, prog_14_method_139_code, 6, (Option.some Jvm.ClassFile.FieldType.int), 4, true, 0) rfl (by decide +kernel) rfl rfl (by decide) (fun _ => ⟨_, _, rfl⟩) (fm_m_saysOne hinj), (fun _ h => absurd h List.not_mem_nil)⟩)⟩)⟩)⟩) (fun as σ K h => by
  obtain ⟨A, e, p, o, z, rfl, hp, h0, h1⟩ := h
  have u0 : ∀ {X : Prop}, fw_c 0 ≠ 0 → X := fun z => absurd fw_c0 z
  have u1 : ∀ {X : Prop}, fw_c 1 = 0 → X := fun z => absurd (fw_c1.symm.trans z) (by decide)
  refine ⟨rfl, fun G hG => ?_⟩
  have loop : ∀ (f g1 o1 p1 : Nat) (τ : ab_SG) (a1 : Int) (LO : sl_T), 20 < f + o1 → 21 ≤ g1 + o1 → o + 1 ≤ o1 → o1 ≤ 20 → tw e p1 ≠ 8 → ab_okM sm_M σ τ → mt_is τ e p1 → sm_is τ o1 (8 - 0) (z + 1) → gq σ τ → rp (τ 121) (τ 93 59) (o1 - o) a1 LO → sl_cd (sn_one A e 0) (sl_one A e 0) e o p = LO ++ sl_lp (sn_one A e 0) (sl_one A e 0) e g1 false o1 p1 → sn_cd (sn_one A e 0) e o p = sn_lp (sn_one A e 0) e g1 o1 p1 → G 14 [some (2, 93, 0), some (0, 0, a1)] [] τ := by
    intro f
    induction f with
    | zero =>
      intro g1 o1 p1 τ a1 LO hf _ _ h20 _ _ _ _ _ _ _ _
      omega
    | succ f ih =>
      intro g1 o1 p1 τ a1 LO hf hg1 ho1 h20 c8 M hm' s' Q R hw hr
      obtain ⟨g2, rfl⟩ : ∃ g2, g1 = g2 + 1 := ⟨g1 - 1, by omega⟩
      rw [sn_lps] at hr
      rw [sl_lps, if_neg c8] at hw
      refine fs_m_seOr0_14 hG ⟨7, e, p1, rfl, by decide, hm'.1, ?_⟩
      show G 20 _ [(0, 0, fw_bo (tw e p1 = ((7 : Nat) : Int)))] τ
      by_cases c : tw e p1 = ((7 : Nat) : Int)
      · rw [fw_bo_t c]
        replace c : tw e p1 = 7 := c
        rw [if_pos (Or.inr c)] at hr
        rw [if_pos c] at hw
        refine fs_m_seOr0_20 hG ⟨u1, fun _ => mt_go hm' (fun τ2 N2 hm2 => fs_m_seOr0_27 hG ?_)⟩
        have M2 : ab_okM sm_M σ τ2 := ev_tr M (ev_up N2 (by decide))
        refine ⟨A, e, tn e p1, o1, z + 1, g2, rfl, ⟨sm_NM M2 hp.1, hm2, sm_k s' N2 (by decide), h20⟩, by omega, fun F eF => ⟨fun q σ' M' a b => fs_m_seOr0_31 hG ⟨u0, fun _ => ⟨fw_01, ?_⟩⟩, fun g3 o3 p3 τ3 e3 c3 hg3 ho3 h203 M3 hm3 s3 L3 w3 R3 => fs_m_seOr0_31 hG ⟨fun _ => ?_, u1⟩⟩⟩
        · rw [hr.trans eF.symm] at h0
          exact h0 q σ' (ev_tr M2 M') a b
        · have b59 := s3.2.2
          have Q3 : gq τ τ3 := gq_tr (gq_k N2 (by decide)) R3.1
          exact ⟨_, _, _, _, rfl, ⟨s3.2.2.1, by have := s3.2.2.2; omega⟩, fun v τ4 M4 e59 ev hd => fs_m_seOr0_47 hG (ih g3 o3 p3 τ4 v (LO ++ (L3 ++ [(2, 0)])) (by omega) hg3 (by omega) h203 c3 (ev_tr (ev_tr M2 M3) (ev_up M4 (by decide))) (mt_M hm3 M4 (by decide) (by decide)) (sm_s s3 M4 e59) (gq_tr (gq_tr Q Q3) (ne_g e59 hd)) (by
            rw [ev]
            exact rp_or (h := o3 - o) ⟨b59.1, by omega⟩ (rp_g Q3 (Nat.le_refl _) R) R3.2 e59 hd (by omega) (by omega)) (by
            have w4 := w3 true
            rw [sl_lp_t c3] at w4
            rw [hw, w4, List.append_assoc, List.append_assoc]
            rfl) ((hr.trans eF.symm).trans e3))⟩
      · rw [fw_bo_f c]
        replace c : tw e p1 ≠ 7 := c
        rw [if_neg (fun u => u.elim c8 c)] at hr
        rw [if_neg c] at hw
        rw [hr, hw] at h1
        exact fs_m_seOr0_20 hG ⟨fun _ => ⟨fw_11, h1 rfl _ (fw_okM_ups M (by decide)) (mt_ups hm' (Or.inr ⟨rfl, by decide⟩)) (sm_k (M := [(93, 62)]) s' okM_one (by decide)) (by
          rw [show fl false = [] from rfl, List.append_nil]
          exact sr_top Q (by have := s'.2.2; omega) R)⟩, u0⟩
  refine fs_m_seOr0_0 hG ⟨A, e, p, o, z, 20, rfl, hp, by omega, fun F eF => ⟨fun q σ' M a b => fs_m_seOr0_4 hG ⟨u0, fun _ => ⟨fw_01, ?_⟩⟩, fun g' o' p' σ1 eq c8 hg ho1 ho2 M1 hm1 s1 LA wA RA => fs_m_seOr0_4 hG ⟨fun _ => ?_, u1⟩⟩⟩
  · have ec : sn_cd (sn_one A e 0) e o p = F := eF.symm
    rw [ec] at h0
    exact h0 q σ' M a b
  · have ec : sn_cd (sn_one A e 0) e o p = F := eF.symm
    exact loop 21 g' o' p' σ1 _ LA (by omega) hg ho1 ho2 c8 M1 hm1 s1 RA.1 RA.2 (wA false) (ec.trans eq))
theorem fm_m_seBr0 (hinj : nn_inj ad) : fw_H l cy ad wr cr D 345 8 (sp_m_seBr 0) := fw_mk hinj (⟨"NameNotesModel", "readBracket", "()Z"⟩, prog_14_method_144_code, 1, (Option.some Jvm.ClassFile.FieldType.boolean), 0, true, 1) rfl rfl nn_KI20_ok nn_KJ20_ok nn_PF20_ok nn_PS20_ok (by decide +kernel) rfl rfl (List.forall_mem_cons.mpr ⟨fw_row nn_PM20_ok (x := 168) (k := 0) (mn := 221) (np := 1) (ob := true) (ci := 11) (⟨"NameNotesModel", "bad", "(I)Z"⟩, prog_14_method_23_code, 2, (Option.some Jvm.ClassFile.FieldType.boolean), 1, true, 1) rfl (by decide +kernel) rfl rfl (by decide) (fun _ => ⟨_, _, rfl⟩) (fm_m_bad hinj), (List.forall_mem_cons.mpr ⟨fw_row nn_PM20_ok (x := 182) (k := 0) (mn := 212) (np := 0) (ob := true) (ci := 11) (⟨"NameNotesModel", "go", "()V"⟩, prog_14_method_17_code, 5, (Option.none : Option Jvm.ClassFile.FieldType), 0, true, 4) rfl (by decide +kernel) rfl rfl (by decide) (fun _ => ⟨_, _, rfl⟩) (fm_m_go hinj), (List.forall_mem_cons.mpr ⟨fw_row nn_PM20_ok (x := 185) (k := 0) (mn := 236) (np := 1) (ob := true) (ci := 11) (⟨"NameNotesModel", "isSign", "(I)Z"⟩, prog_14_method_21_code, 2, (Option.some Jvm.ClassFile.FieldType.boolean), 1, true, 1) rfl (by decide +kernel) rfl rfl (by decide) (fun _ => ⟨_, _, rfl⟩) (fm_m_isSign hinj), (List.forall_mem_cons.mpr ⟨fw_row nn_PM20_ok (x := 522) (k := 0) (mn := 342) (np := 0) (ob := true) (ci := 11) (⟨"NameNotesModel", "readOr", "()Z"⟩, prog_14_method_140_code, 2, (Option.some Jvm.ClassFile.FieldType.boolean), 0, true, 1) rfl (by decide +kernel) rfl rfl (by decide) (fun _ => ⟨_, _, rfl⟩) (fm_m_seOr0 hinj), (fun _ h => absurd h List.not_mem_nil)⟩)⟩)⟩)⟩) (fun as σ K h => by
  obtain ⟨A, e, p, o, z, rfl, hp, h0, h1⟩ := h
  have u0 : ∀ {X : Prop}, fw_c 0 ≠ 0 → X := fun z => absurd fw_c0 z
  have u1 : ∀ {X : Prop}, fw_c 1 = 0 → X := fun z => absurd (fw_c1.symm.trans z) (by decide)
  refine ⟨rfl, fun G hG => fs_m_seBr0_0 hG ⟨A, e, p, o, z, rfl, hp, ?_⟩⟩
  generalize sn_cd (sn_one A e 0) e o p = r at h0 h1 ⊢
  refine ⟨fun q σ' M a b => fs_m_seBr0_4 hG ⟨u0, fun _ => ⟨fw_01, ?_⟩⟩, fun q σ1 M1 hm1 s1 R1 => fs_m_seBr0_4 hG ⟨fun _ => ⟨41, e, r.2.2.2, rfl, Or.inr (Or.inr (Or.inr rfl)), hm1.1, ?_⟩, u1⟩⟩
  · rw [show sn_br e r = r from if_pos q] at h0
    exact h0 q σ' M a b
  · show G 15 _ [(0, 0, fw_bo ((tk e r.2.2.2).1 = 41))] σ1
    by_cases c : (tk e r.2.2.2).1 = 41
    · rw [fw_bo_t c]
      have eb : sn_br e r = (0, 0, r.2.2.1, tn e r.2.2.2) := (if_neg (fun u => u q)).trans (if_neg (fun u => u c))
      rw [eb] at h1
      exact fs_m_seBr0_15 hG ⟨fun _ => mt_go hm1 (fun σ2 N2 hm2 => fs_m_seBr0_28 hG ⟨fw_11, h1 rfl σ2 (ev_tr M1 (ev_up N2 (by decide))) hm2 (sm_k s1 N2 (by decide)) (sr_k R1 N2 (by decide))⟩), u1⟩
    · rw [fw_bo_f c]
      have eb : sn_br e r = (1, ev_st e r.2.2.2, r.2.2.1, r.2.2.2) := (if_neg (fun u => u q)).trans (if_pos c)
      rw [eb] at h0
      refine fs_m_seBr0_15 hG ⟨u0, fun _ => mp_bad hm1.1 (by decide) (fun σ' hM h10 h11 => fs_m_seBr0_23 hG ⟨fw_01, h0 (show (1 : Int) ≠ 0 by decide) σ' (ev_tr M1 (ev_up hM (by decide))) ?_ h11⟩)⟩
      rw [h10]
      split <;> rfl)
end
abbrev fk_m_seOne1 : List fw_CR := [(168, 1, true, 11, 0, sp_m_bad), (182, 0, true, 11, 1, sp_m_go), (185, 1, true, 11, 0, sp_m_isSign), (225, 1, true, 11, 2, sp_m_isWord), (261, 0, true, 11, 0, sp_m_tunes), (510, 0, true, 11, 8, sp_m_seBr 0), (513, 0, true, 11, 6, sp_m_seNot 0), (516, 3, true, 11, 3, sp_m_seOf), (519, 1, true, 11, 3, sp_m_seCmp)]
abbrev st_m_seOne1 : fw_K → fw_KR → fw_K := fw_st vwCl nn_sh nn_kd fw_kv fw_wc (nn_KI20.map (fun x => x.1)) (nn_KJ20.map (fun x => x.1)) (nn_PF20.map (fun x => x.1)) (nn_PS20.map (fun x => x.1)) fk_m_seOne1 9 nn_dt344 4 1
theorem fs_m_seOne1_0 {G : fw_K} {R : fw_KR} (hG : fw_cls st_m_seOne1 R G) {σ : ab_SG} (h : sp_m_isSign [(2, 93, 0), (0, 0, 40)] σ (fun rv σ2 => G 6 [some (2, 93, 0), none, none, none] (rv.toList ++ []) σ2)) : G 0 [some (2, 93, 0), none, none, none] [] σ := fw_on hG [6, 10, 21, 30, 45, 46, 64, 69, 94, 104, 118, 141, 164, 181, 184, 193, 194] 200 h
theorem fs_m_seOne1_6 {G : fw_K} {R : fw_KR} (hG : fw_cls st_m_seOne1 R G) {b0 : Int} {o1 o3 : Option ab_AV} {σ : ab_SG} (h : G 10 [some (2, 93, 0), some (0, 0, b0), some (0, 0, 9), o3] [] σ) : G 6 [some (2, 93, 0), o1, none, o3] [(0, 0, b0)] σ := fw_on hG [6, 10, 21, 30, 45, 46, 64, 69, 94, 104, 118, 141, 164, 181, 184, 193, 194] 200 h
theorem fs_m_seOne1_10 {G : fw_K} {R : fw_KR} (hG : fw_cls st_m_seOne1 R G) {a1 a2 : Int} {o3 : Option ab_AV} {σ : ab_SG} (h : (fw_c 16 < fw_c a2 → G 30 [some (2, 93, 0), some (0, 0, a1), some (0, 0, a2), o3] [] σ) ∧ (fw_c a2 ≤ fw_c 16 → sp_m_isWord [(2, 93, 0), (0, 0, a2)] σ (fun rv σ2 => G 21 [some (2, 93, 0), some (0, 0, a1), some (0, 0, a2), o3] (rv.toList ++ []) σ2))) : G 10 [some (2, 93, 0), some (0, 0, a1), some (0, 0, a2), o3] [] σ := fw_on hG [6, 10, 21, 30, 45, 46, 64, 69, 94, 104, 118, 141, 164, 181, 184, 193, 194] 200 h
theorem fs_m_seOne1_30 {G : fw_K} {R : fw_KR} (hG : fw_cls st_m_seOne1 R G) {a1 a2 : Int} {o3 : Option ab_AV} {σ : ab_SG} (h : (fw_c a1 ≠ 0 → G 46 [some (2, 93, 0), some (0, 0, a1), some (0, 0, a2), o3] [] σ) ∧ (fw_c a1 = 0 → (fw_c a2 ≤ fw_c 16 → G 46 [some (2, 93, 0), some (0, 0, a1), some (0, 0, a2), o3] [] σ) ∧ (fw_c 16 < fw_c a2 → sp_m_bad [(2, 93, 0), (0, 0, 1)] σ (fun rv σ2 => G 45 [some (2, 93, 0), some (0, 0, a1), some (0, 0, a2), o3] (rv.toList ++ []) σ2)))) : G 30 [some (2, 93, 0), some (0, 0, a1), some (0, 0, a2), o3] [] σ := fw_on hG [6, 10, 21, 30, 45, 46, 64, 69, 94, 104, 118, 141, 164, 181, 184, 193, 194] 200 h
theorem fs_m_seOne1_21 {G : fw_K} {R : fw_KR} (hG : fw_cls st_m_seOne1 R G) {a1 a2 b0 : Int} {o3 : Option ab_AV} {σ : ab_SG} (h : (fw_c b0 ≠ 0 → G 30 [some (2, 93, 0), some (0, 0, a1), some (0, 0, a2), o3] [] σ) ∧ (fw_c b0 = 0 → G 10 [some (2, 93, 0), some (0, 0, a1), some (0, 0, a2 + 1), o3] [] σ)) : G 21 [some (2, 93, 0), some (0, 0, a1), some (0, 0, a2), o3] [(0, 0, b0)] σ := fw_on hG [6, 10, 21, 30, 45, 46, 64, 69, 94, 104, 118, 141, 164, 181, 184, 193, 194] 200 h
theorem fs_m_seOne1_46 {G : fw_K} {R : fw_KR} (hG : fw_cls st_m_seOne1 R G) {a1 a2 : Int} {o3 : Option ab_AV} {σ : ab_SG} (h : (fw_c (σ 93 60) = fw_c 20 → G 64 [some (2, 93, 0), some (0, 0, a1), some (0, 0, a2), o3] [] σ) ∧ (fw_c (σ 93 60) ≠ fw_c 20 → (fw_c (σ 93 61) ≠ fw_c 8 → sp_m_go [(2, 93, 0)] (ab_ups (ab_ups σ 93 60 (fw_c ((σ 93 60) + 1))) 93 61 (fw_c ((σ 93 61) + 1))) (fun rv σ2 => G 94 [some (2, 93, 0), some (0, 0, a1), some (0, 0, a2), o3] (rv.toList ++ []) σ2)) ∧ (fw_c (σ 93 61) = fw_c 8 → G 64 [some (2, 93, 0), some (0, 0, a1), some (0, 0, a2), o3] [] σ))) : G 46 [some (2, 93, 0), some (0, 0, a1), some (0, 0, a2), o3] [] σ := fw_on hG [6, 10, 21, 30, 45, 46, 64, 69, 94, 104, 118, 141, 164, 181, 184, 193, 194] 200 h
theorem fs_m_seOne1_45 {G : fw_K} {R : fw_KR} (hG : fw_cls st_m_seOne1 R G) {a2 b0 : Int} {o1 o3 : Option ab_AV} {σ : ab_SG} (h : (0 ≤ fw_c b0 ∧ fw_c b0 ≤ 1) ∧ R (some (0, 0, b0)) σ) : G 45 [some (2, 93, 0), o1, some (0, 0, a2), o3] [(0, 0, b0)] σ := fw_on hG [6, 10, 21, 30, 45, 46, 64, 69, 94, 104, 118, 141, 164, 181, 184, 193, 194] 200 h
theorem fs_m_seOne1_64 {G : fw_K} {R : fw_KR} (hG : fw_cls st_m_seOne1 R G) {a2 : Int} {o1 o3 : Option ab_AV} {σ : ab_SG} (h : sp_m_bad [(2, 93, 0), (0, 0, 4)] σ (fun rv σ2 => G 69 [some (2, 93, 0), o1, some (0, 0, a2), o3] (rv.toList ++ []) σ2)) : G 64 [some (2, 93, 0), o1, some (0, 0, a2), o3] [] σ := fw_on hG [6, 10, 21, 30, 45, 46, 64, 69, 94, 104, 118, 141, 164, 181, 184, 193, 194] 200 h
theorem fs_m_seOne1_94 {G : fw_K} {R : fw_KR} (hG : fw_cls st_m_seOne1 R G) {a1 a2 : Int} {o3 : Option ab_AV} {σ : ab_SG} (h : (fw_c a1 = 0 → (fw_c a2 ≠ fw_c 9 → (fw_c a2 ≠ fw_c 10 → (fw_c a2 ≠ fw_c 11 → (fw_c a2 ≠ fw_c 12 → sp_m_seCmp [(2, 93, 0), (0, 0, a2)] σ (fun rv σ2 => G 193 [some (2, 93, 0), some (0, 0, a1), some (0, 0, a2), some (0, 0, 1)] (rv.toList ++ []) σ2)) ∧ (fw_c a2 = fw_c 12 → sp_m_tunes [(2, 93, 0)] σ (fun rv σ2 => G 181 [some (2, 93, 0), some (0, 0, a1), some (0, 0, a2), some (0, 0, 1)] (rv.toList ++ [(0, 0, 0), (0, 0, a2), (2, 93, 0)]) σ2))) ∧ (fw_c a2 = fw_c 11 → (0 ≤ fw_c 2 ∧ fw_c 2 < ((474 : Nat) : Int)) ∧ (sp_m_seOf [(2, 93, 0), (0, 0, a2), (0, 0, 15), (0, 0, σ 95 (fw_c 2).toNat)] σ (fun rv σ2 => G 164 [some (2, 93, 0), some (0, 0, a1), some (0, 0, a2), some (0, 0, 1)] (rv.toList ++ []) σ2)))) ∧ (fw_c a2 = fw_c 10 → (0 ≤ fw_c 1 ∧ fw_c 1 < ((474 : Nat) : Int)) ∧ (sp_m_seOf [(2, 93, 0), (0, 0, a2), (0, 0, 9), (0, 0, σ 95 (fw_c 1).toNat)] σ (fun rv σ2 => G 141 [some (2, 93, 0), some (0, 0, a1), some (0, 0, a2), some (0, 0, 1)] (rv.toList ++ []) σ2)))) ∧ (fw_c a2 = fw_c 9 → sp_m_seNot 0 [(2, 93, 0)] σ (fun rv σ2 => G 118 [some (2, 93, 0), some (0, 0, a1), some (0, 0, a2), some (0, 0, 1)] (rv.toList ++ []) σ2))) ∧ (fw_c a1 ≠ 0 → sp_m_seBr 0 [(2, 93, 0)] σ (fun rv σ2 => G 104 [some (2, 93, 0), some (0, 0, a1), some (0, 0, a2), some (0, 0, 1)] (rv.toList ++ []) σ2))) : G 94 [some (2, 93, 0), some (0, 0, a1), some (0, 0, a2), o3] [] σ := fw_on hG [6, 10, 21, 30, 45, 46, 64, 69, 94, 104, 118, 141, 164, 181, 184, 193, 194] 200 h
theorem fs_m_seOne1_69 {G : fw_K} {R : fw_KR} (hG : fw_cls st_m_seOne1 R G) {a2 b0 : Int} {o1 o3 : Option ab_AV} {σ : ab_SG} (h : (0 ≤ fw_c b0 ∧ fw_c b0 ≤ 1) ∧ R (some (0, 0, b0)) σ) : G 69 [some (2, 93, 0), o1, some (0, 0, a2), o3] [(0, 0, b0)] σ := fw_on hG [6, 10, 21, 30, 45, 46, 64, 69, 94, 104, 118, 141, 164, 181, 184, 193, 194] 200 h
theorem fs_m_seOne1_193 {G : fw_K} {R : fw_KR} (hG : fw_cls st_m_seOne1 R G) {a2 b0 : Int} {o1 o3 : Option ab_AV} {σ : ab_SG} (h : G 194 [some (2, 93, 0), o1, some (0, 0, a2), some (0, 0, b0)] [] σ) : G 193 [some (2, 93, 0), o1, some (0, 0, a2), o3] [(0, 0, b0)] σ := fw_on hG [6, 10, 21, 30, 45, 46, 64, 69, 94, 104, 118, 141, 164, 181, 184, 193, 194] 200 h
theorem fs_m_seOne1_181 {G : fw_K} {R : fw_KR} (hG : fw_cls st_m_seOne1 R G) {a2 b0 b1 b2 : Int} {o1 o3 : Option ab_AV} {σ : ab_SG} (h : sp_m_seOf [(2, 93, 0), (0, 0, b2), (0, 0, b1), (0, 0, b0)] σ (fun rv σ2 => G 184 [some (2, 93, 0), o1, some (0, 0, a2), o3] (rv.toList ++ []) σ2)) : G 181 [some (2, 93, 0), o1, some (0, 0, a2), o3] [(0, 0, b0), (0, 0, b1), (0, 0, b2), (2, 93, 0)] σ := fw_on hG [6, 10, 21, 30, 45, 46, 64, 69, 94, 104, 118, 141, 164, 181, 184, 193, 194] 200 h
theorem fs_m_seOne1_164 {G : fw_K} {R : fw_KR} (hG : fw_cls st_m_seOne1 R G) {a2 b0 : Int} {o1 o3 : Option ab_AV} {σ : ab_SG} (h : G 194 [some (2, 93, 0), o1, some (0, 0, a2), some (0, 0, b0)] [] σ) : G 164 [some (2, 93, 0), o1, some (0, 0, a2), o3] [(0, 0, b0)] σ := fw_on hG [6, 10, 21, 30, 45, 46, 64, 69, 94, 104, 118, 141, 164, 181, 184, 193, 194] 200 h
theorem fs_m_seOne1_141 {G : fw_K} {R : fw_KR} (hG : fw_cls st_m_seOne1 R G) {a2 b0 : Int} {o1 o3 : Option ab_AV} {σ : ab_SG} (h : G 194 [some (2, 93, 0), o1, some (0, 0, a2), some (0, 0, b0)] [] σ) : G 141 [some (2, 93, 0), o1, some (0, 0, a2), o3] [(0, 0, b0)] σ := fw_on hG [6, 10, 21, 30, 45, 46, 64, 69, 94, 104, 118, 141, 164, 181, 184, 193, 194] 200 h
theorem fs_m_seOne1_118 {G : fw_K} {R : fw_KR} (hG : fw_cls st_m_seOne1 R G) {a2 b0 : Int} {o1 o3 : Option ab_AV} {σ : ab_SG} (h : G 194 [some (2, 93, 0), o1, some (0, 0, a2), some (0, 0, b0)] [] σ) : G 118 [some (2, 93, 0), o1, some (0, 0, a2), o3] [(0, 0, b0)] σ := fw_on hG [6, 10, 21, 30, 45, 46, 64, 69, 94, 104, 118, 141, 164, 181, 184, 193, 194] 200 h
theorem fs_m_seOne1_104 {G : fw_K} {R : fw_KR} (hG : fw_cls st_m_seOne1 R G) {a2 b0 : Int} {o1 o3 : Option ab_AV} {σ : ab_SG} (h : G 194 [some (2, 93, 0), o1, some (0, 0, a2), some (0, 0, b0)] [] σ) : G 104 [some (2, 93, 0), o1, some (0, 0, a2), o3] [(0, 0, b0)] σ := fw_on hG [6, 10, 21, 30, 45, 46, 64, 69, 94, 104, 118, 141, 164, 181, 184, 193, 194] 200 h
theorem fs_m_seOne1_194 {G : fw_K} {R : fw_KR} (hG : fw_cls st_m_seOne1 R G) {a2 a3 : Int} {o1 : Option ab_AV} {σ : ab_SG} (h : (0 ≤ fw_c a3 ∧ fw_c a3 ≤ 1) ∧ R (some (0, 0, a3)) (ab_ups σ 93 61 (fw_c ((σ 93 61) - 1)))) : G 194 [some (2, 93, 0), o1, some (0, 0, a2), some (0, 0, a3)] [] σ := fw_on hG [6, 10, 21, 30, 45, 46, 64, 69, 94, 104, 118, 141, 164, 181, 184, 193, 194] 200 h
theorem fs_m_seOne1_184 {G : fw_K} {R : fw_KR} (hG : fw_cls st_m_seOne1 R G) {a2 b0 : Int} {o1 o3 : Option ab_AV} {σ : ab_SG} (h : G 194 [some (2, 93, 0), o1, some (0, 0, a2), some (0, 0, b0)] [] σ) : G 184 [some (2, 93, 0), o1, some (0, 0, a2), o3] [(0, 0, b0)] σ := fw_on hG [6, 10, 21, 30, 45, 46, 64, 69, 94, 104, 118, 141, 164, 181, 184, 193, 194] 200 h
abbrev fk_m_seAnd1 : List fw_CR := [(182, 0, true, 11, 1, sp_m_go), (225, 1, true, 11, 2, sp_m_isWord), (498, 4, true, 11, 0, sp_m_saysOne), (501, 0, true, 11, 9, sp_m_seOne 1)]
abbrev st_m_seAnd1 : fw_K → fw_KR → fw_K := fw_st vwCl nn_sh nn_kd fw_kv fw_wc (nn_KI20.map (fun x => x.1)) (nn_KJ20.map (fun x => x.1)) (nn_PF20.map (fun x => x.1)) (nn_PS20.map (fun x => x.1)) fk_m_seAnd1 10 nn_dt343 2 1
theorem fs_m_seAnd1_0 {G : fw_K} {R : fw_KR} (hG : fw_cls st_m_seAnd1 R G) {σ : ab_SG} (h : sp_m_seOne 1 [(2, 93, 0)] σ (fun rv σ2 => G 4 [some (2, 93, 0), none] (rv.toList ++ []) σ2)) : G 0 [some (2, 93, 0), none] [] σ := fw_on hG [4, 14, 20, 27, 31, 47] 200 h
theorem fs_m_seAnd1_4 {G : fw_K} {R : fw_KR} (hG : fw_cls st_m_seAnd1 R G) {b0 : Int} {o1 : Option ab_AV} {σ : ab_SG} (h : (fw_c b0 ≠ 0 → G 14 [some (2, 93, 0), some (0, 0, σ 93 62)] [] σ) ∧ (fw_c b0 = 0 → (0 ≤ fw_c 0 ∧ fw_c 0 ≤ 1) ∧ R (some (0, 0, 0)) σ)) : G 4 [some (2, 93, 0), o1] [(0, 0, b0)] σ := fw_on hG [4, 14, 20, 27, 31, 47] 200 h
theorem fs_m_seAnd1_14 {G : fw_K} {R : fw_KR} (hG : fw_cls st_m_seAnd1 R G) {a1 : Int} {σ : ab_SG} (h : sp_m_isWord [(2, 93, 0), (0, 0, 8)] σ (fun rv σ2 => G 20 [some (2, 93, 0), some (0, 0, a1)] (rv.toList ++ []) σ2)) : G 14 [some (2, 93, 0), some (0, 0, a1)] [] σ := fw_on hG [4, 14, 20, 27, 31, 47] 200 h
theorem fs_m_seAnd1_20 {G : fw_K} {R : fw_KR} (hG : fw_cls st_m_seAnd1 R G) {a1 b0 : Int} {σ : ab_SG} (h : (fw_c b0 = 0 → (0 ≤ fw_c 1 ∧ fw_c 1 ≤ 1) ∧ R (some (0, 0, 1)) (ab_ups σ 93 62 (fw_c a1))) ∧ (fw_c b0 ≠ 0 → sp_m_go [(2, 93, 0)] σ (fun rv σ2 => G 27 [some (2, 93, 0), some (0, 0, a1)] (rv.toList ++ []) σ2))) : G 20 [some (2, 93, 0), some (0, 0, a1)] [(0, 0, b0)] σ := fw_on hG [4, 14, 20, 27, 31, 47] 200 h
theorem fs_m_seAnd1_27 {G : fw_K} {R : fw_KR} (hG : fw_cls st_m_seAnd1 R G) {a1 : Int} {σ : ab_SG} (h : sp_m_seOne 1 [(2, 93, 0)] σ (fun rv σ2 => G 31 [some (2, 93, 0), some (0, 0, a1)] (rv.toList ++ []) σ2)) : G 27 [some (2, 93, 0), some (0, 0, a1)] [] σ := fw_on hG [4, 14, 20, 27, 31, 47] 200 h
theorem fs_m_seAnd1_31 {G : fw_K} {R : fw_KR} (hG : fw_cls st_m_seAnd1 R G) {a1 b0 : Int} {σ : ab_SG} (h : (fw_c b0 ≠ 0 → sp_m_saysOne [(2, 93, 0), (0, 0, 2), (0, 0, a1), (0, 0, σ 93 62), (0, 0, 0)] σ (fun rv σ2 => G 47 [some (2, 93, 0), some (0, 0, a1)] (rv.toList ++ []) σ2)) ∧ (fw_c b0 = 0 → (0 ≤ fw_c 0 ∧ fw_c 0 ≤ 1) ∧ R (some (0, 0, 0)) σ)) : G 31 [some (2, 93, 0), some (0, 0, a1)] [(0, 0, b0)] σ := fw_on hG [4, 14, 20, 27, 31, 47] 200 h
theorem fs_m_seAnd1_47 {G : fw_K} {R : fw_KR} (hG : fw_cls st_m_seAnd1 R G) {b0 : Int} {o1 : Option ab_AV} {σ : ab_SG} (h : G 14 [some (2, 93, 0), some (0, 0, b0)] [] σ) : G 47 [some (2, 93, 0), o1] [(0, 0, b0)] σ := fw_on hG [4, 14, 20, 27, 31, 47] 200 h
abbrev fk_m_seOr1 : List fw_CR := [(182, 0, true, 11, 1, sp_m_go), (225, 1, true, 11, 2, sp_m_isWord), (492, 0, true, 11, 10, sp_m_seAnd 1), (498, 4, true, 11, 0, sp_m_saysOne)]
abbrev st_m_seOr1 : fw_K → fw_KR → fw_K := fw_st vwCl nn_sh nn_kd fw_kv fw_wc (nn_KI20.map (fun x => x.1)) (nn_KJ20.map (fun x => x.1)) (nn_PF20.map (fun x => x.1)) (nn_PS20.map (fun x => x.1)) fk_m_seOr1 11 nn_dt342 2 1
theorem fs_m_seOr1_0 {G : fw_K} {R : fw_KR} (hG : fw_cls st_m_seOr1 R G) {σ : ab_SG} (h : sp_m_seAnd 1 [(2, 93, 0)] σ (fun rv σ2 => G 4 [some (2, 93, 0), none] (rv.toList ++ []) σ2)) : G 0 [some (2, 93, 0), none] [] σ := fw_on hG [4, 14, 20, 27, 31, 47] 200 h
theorem fs_m_seOr1_4 {G : fw_K} {R : fw_KR} (hG : fw_cls st_m_seOr1 R G) {b0 : Int} {o1 : Option ab_AV} {σ : ab_SG} (h : (fw_c b0 ≠ 0 → G 14 [some (2, 93, 0), some (0, 0, σ 93 62)] [] σ) ∧ (fw_c b0 = 0 → (0 ≤ fw_c 0 ∧ fw_c 0 ≤ 1) ∧ R (some (0, 0, 0)) σ)) : G 4 [some (2, 93, 0), o1] [(0, 0, b0)] σ := fw_on hG [4, 14, 20, 27, 31, 47] 200 h
theorem fs_m_seOr1_14 {G : fw_K} {R : fw_KR} (hG : fw_cls st_m_seOr1 R G) {a1 : Int} {σ : ab_SG} (h : sp_m_isWord [(2, 93, 0), (0, 0, 7)] σ (fun rv σ2 => G 20 [some (2, 93, 0), some (0, 0, a1)] (rv.toList ++ []) σ2)) : G 14 [some (2, 93, 0), some (0, 0, a1)] [] σ := fw_on hG [4, 14, 20, 27, 31, 47] 200 h
theorem fs_m_seOr1_20 {G : fw_K} {R : fw_KR} (hG : fw_cls st_m_seOr1 R G) {a1 b0 : Int} {σ : ab_SG} (h : (fw_c b0 = 0 → (0 ≤ fw_c 1 ∧ fw_c 1 ≤ 1) ∧ R (some (0, 0, 1)) (ab_ups σ 93 62 (fw_c a1))) ∧ (fw_c b0 ≠ 0 → sp_m_go [(2, 93, 0)] σ (fun rv σ2 => G 27 [some (2, 93, 0), some (0, 0, a1)] (rv.toList ++ []) σ2))) : G 20 [some (2, 93, 0), some (0, 0, a1)] [(0, 0, b0)] σ := fw_on hG [4, 14, 20, 27, 31, 47] 200 h
theorem fs_m_seOr1_27 {G : fw_K} {R : fw_KR} (hG : fw_cls st_m_seOr1 R G) {a1 : Int} {σ : ab_SG} (h : sp_m_seAnd 1 [(2, 93, 0)] σ (fun rv σ2 => G 31 [some (2, 93, 0), some (0, 0, a1)] (rv.toList ++ []) σ2)) : G 27 [some (2, 93, 0), some (0, 0, a1)] [] σ := fw_on hG [4, 14, 20, 27, 31, 47] 200 h
theorem fs_m_seOr1_31 {G : fw_K} {R : fw_KR} (hG : fw_cls st_m_seOr1 R G) {a1 b0 : Int} {σ : ab_SG} (h : (fw_c b0 ≠ 0 → sp_m_saysOne [(2, 93, 0), (0, 0, 3), (0, 0, a1), (0, 0, σ 93 62), (0, 0, 0)] σ (fun rv σ2 => G 47 [some (2, 93, 0), some (0, 0, a1)] (rv.toList ++ []) σ2)) ∧ (fw_c b0 = 0 → (0 ≤ fw_c 0 ∧ fw_c 0 ≤ 1) ∧ R (some (0, 0, 0)) σ)) : G 31 [some (2, 93, 0), some (0, 0, a1)] [(0, 0, b0)] σ := fw_on hG [4, 14, 20, 27, 31, 47] 200 h
theorem fs_m_seOr1_47 {G : fw_K} {R : fw_KR} (hG : fw_cls st_m_seOr1 R G) {b0 : Int} {o1 : Option ab_AV} {σ : ab_SG} (h : G 14 [some (2, 93, 0), some (0, 0, b0)] [] σ) : G 47 [some (2, 93, 0), o1] [(0, 0, b0)] σ := fw_on hG [4, 14, 20, 27, 31, 47] 200 h
abbrev fk_m_seBr1 : List fw_CR := [(168, 1, true, 11, 0, sp_m_bad), (182, 0, true, 11, 1, sp_m_go), (185, 1, true, 11, 0, sp_m_isSign), (522, 0, true, 11, 11, sp_m_seOr 1)]
abbrev st_m_seBr1 : fw_K → fw_KR → fw_K := fw_st vwCl nn_sh nn_kd fw_kv fw_wc (nn_KI20.map (fun x => x.1)) (nn_KJ20.map (fun x => x.1)) (nn_PF20.map (fun x => x.1)) (nn_PS20.map (fun x => x.1)) fk_m_seBr1 12 nn_dt345 1 1
theorem fs_m_seBr1_0 {G : fw_K} {R : fw_KR} (hG : fw_cls st_m_seBr1 R G) {σ : ab_SG} (h : sp_m_seOr 1 [(2, 93, 0)] σ (fun rv σ2 => G 4 [some (2, 93, 0)] (rv.toList ++ []) σ2)) : G 0 [some (2, 93, 0)] [] σ := fw_on hG [4, 15, 23, 28] 200 h
theorem fs_m_seBr1_4 {G : fw_K} {R : fw_KR} (hG : fw_cls st_m_seBr1 R G) {b0 : Int} {σ : ab_SG} (h : (fw_c b0 ≠ 0 → sp_m_isSign [(2, 93, 0), (0, 0, 41)] σ (fun rv σ2 => G 15 [some (2, 93, 0)] (rv.toList ++ []) σ2)) ∧ (fw_c b0 = 0 → (0 ≤ fw_c 0 ∧ fw_c 0 ≤ 1) ∧ R (some (0, 0, 0)) σ)) : G 4 [some (2, 93, 0)] [(0, 0, b0)] σ := fw_on hG [4, 15, 23, 28] 200 h
theorem fs_m_seBr1_15 {G : fw_K} {R : fw_KR} (hG : fw_cls st_m_seBr1 R G) {b0 : Int} {σ : ab_SG} (h : (fw_c b0 ≠ 0 → sp_m_go [(2, 93, 0)] σ (fun rv σ2 => G 28 [some (2, 93, 0)] (rv.toList ++ []) σ2)) ∧ (fw_c b0 = 0 → sp_m_bad [(2, 93, 0), (0, 0, 1)] σ (fun rv σ2 => G 23 [some (2, 93, 0)] (rv.toList ++ []) σ2))) : G 15 [some (2, 93, 0)] [(0, 0, b0)] σ := fw_on hG [4, 15, 23, 28] 200 h
theorem fs_m_seBr1_28 {G : fw_K} {R : fw_KR} (hG : fw_cls st_m_seBr1 R G) {σ : ab_SG} (h : (0 ≤ fw_c 1 ∧ fw_c 1 ≤ 1) ∧ R (some (0, 0, 1)) σ) : G 28 [some (2, 93, 0)] [] σ := fw_on hG [4, 15, 23, 28] 200 h
theorem fs_m_seBr1_23 {G : fw_K} {R : fw_KR} (hG : fw_cls st_m_seBr1 R G) {b0 : Int} {σ : ab_SG} (h : (0 ≤ fw_c b0 ∧ fw_c b0 ≤ 1) ∧ R (some (0, 0, b0)) σ) : G 23 [some (2, 93, 0)] [(0, 0, b0)] σ := fw_on hG [4, 15, 23, 28] 200 h
abbrev fk_m_seNot1 : List fw_CR := [(498, 4, true, 11, 0, sp_m_saysOne), (501, 0, true, 11, 9, sp_m_seOne 1)]
abbrev st_m_seNot1 : fw_K → fw_KR → fw_K := fw_st vwCl nn_sh nn_kd fw_kv fw_wc (nn_KI20.map (fun x => x.1)) (nn_KJ20.map (fun x => x.1)) (nn_PF20.map (fun x => x.1)) (nn_PS20.map (fun x => x.1)) fk_m_seNot1 10 nn_dt346 1 1
theorem fs_m_seNot1_0 {G : fw_K} {R : fw_KR} (hG : fw_cls st_m_seNot1 R G) {σ : ab_SG} (h : sp_m_seOne 1 [(2, 93, 0)] σ (fun rv σ2 => G 4 [some (2, 93, 0)] (rv.toList ++ []) σ2)) : G 0 [some (2, 93, 0)] [] σ := fw_on hG [4, 21] 200 h
theorem fs_m_seNot1_4 {G : fw_K} {R : fw_KR} (hG : fw_cls st_m_seNot1 R G) {b0 : Int} {σ : ab_SG} (h : (fw_c b0 ≠ 0 → sp_m_saysOne [(2, 93, 0), (0, 0, 1), (0, 0, σ 93 62), (0, 0, 0), (0, 0, 0)] σ (fun rv σ2 => G 21 [some (2, 93, 0)] (rv.toList ++ [(2, 93, 0)]) σ2)) ∧ (fw_c b0 = 0 → (0 ≤ fw_c 0 ∧ fw_c 0 ≤ 1) ∧ R (some (0, 0, 0)) σ)) : G 4 [some (2, 93, 0)] [(0, 0, b0)] σ := fw_on hG [4, 21] 200 h
theorem fs_m_seNot1_21 {G : fw_K} {R : fw_KR} (hG : fw_cls st_m_seNot1 R G) {b0 : Int} {σ : ab_SG} (h : (0 ≤ fw_c 1 ∧ fw_c 1 ≤ 1) ∧ R (some (0, 0, 1)) (ab_ups σ 93 62 (fw_c b0))) : G 21 [some (2, 93, 0)] [(0, 0, b0), (2, 93, 0)] σ := fw_on hG [4, 21] 200 h
section
variable {l : Launch} {cy : Nat → ClassId} {ad wr cr : Nat → Nat} {D : va_G}
theorem fm_m_seOne1 (hinj : nn_inj ad) : fw_H l cy ad wr cr D 344 9 (sp_m_seOne 1) := fw_mk hinj (⟨"NameNotesModel", "readOne", "()Z"⟩, prog_14_method_142_code, 4, (Option.some Jvm.ClassFile.FieldType.boolean), 0, true, 1) rfl rfl nn_KI20_ok nn_KJ20_ok nn_PF20_ok nn_PS20_ok (by decide +kernel) rfl rfl (List.forall_mem_cons.mpr ⟨fw_row nn_PM20_ok (x := 168) (k := 0) (mn := 221) (np := 1) (ob := true) (ci := 11) (⟨"NameNotesModel", "bad", "(I)Z"⟩, prog_14_method_23_code, 2, (Option.some Jvm.ClassFile.FieldType.boolean), 1, true, 1) rfl (by decide +kernel) rfl rfl (by decide) (fun _ => ⟨_, _, rfl⟩) (fm_m_bad hinj), (List.forall_mem_cons.mpr ⟨fw_row nn_PM20_ok (x := 182) (k := 0) (mn := 212) (np := 0) (ob := true) (ci := 11) (⟨"NameNotesModel", "go", "()V"⟩, prog_14_method_17_code, 5, (Option.none : Option Jvm.ClassFile.FieldType), 0, true, 4) rfl (by decide +kernel) rfl rfl (by decide) (fun _ => ⟨_, _, rfl⟩) (fm_m_go hinj), (List.forall_mem_cons.mpr ⟨fw_row nn_PM20_ok (x := 185) (k := 0) (mn := 236) (np := 1) (ob := true) (ci := 11) (⟨"NameNotesModel", "isSign", "(I)Z"⟩, prog_14_method_21_code, 2, (Option.some Jvm.ClassFile.FieldType.boolean), 1, true, 1) rfl (by decide +kernel) rfl rfl (by decide) (fun _ => ⟨_, _, rfl⟩) (fm_m_isSign hinj), (List.forall_mem_cons.mpr ⟨fw_row nn_PM20_ok (x := 225) (k := 0) (mn := 217) (np := 1) (ob := true) (ci := 11) (⟨"NameNotesModel", "isWord", "(I)Z"⟩, prog_14_method_20_code, 2, (Option.some Jvm.ClassFile.FieldType.boolean), 1, true, 1) rfl (by decide +kernel) rfl rfl (by decide) (fun _ => ⟨_, _, rfl⟩) (fm_m_isWord hinj), (List.forall_mem_cons.mpr ⟨fw_row nn_PM20_ok (x := 261) (k := 0) (mn := 240) (np := 0) (ob := true) (ci := 11) (⟨"NameNotesModel", "tunes", "()I"⟩, prog_14_method_41_code, 1, (Option.some Jvm.ClassFile.FieldType.int), 0, true, 0) rfl (by decide +kernel) rfl rfl (by decide) (fun _ => ⟨_, _, rfl⟩) (fm_m_tunes hinj), (List.forall_mem_cons.mpr ⟨fw_row nn_PM20_ok (x := 510) (k := 0) (mn := 345) (np := 0) (ob := true) (ci := 11) (⟨"NameNotesModel", "readBracket", "()Z"⟩, prog_14_method_144_code, 1, (Option.some Jvm.ClassFile.FieldType.boolean), 0, true, 1) rfl (by decide +kernel) rfl rfl (by decide) (fun _ => ⟨_, _, rfl⟩) (fm_m_seBr0 hinj), (List.forall_mem_cons.mpr ⟨fw_row nn_PM20_ok (x := 513) (k := 0) (mn := 346) (np := 0) (ob := true) (ci := 11) (⟨"NameNotesModel", "readNot", "()Z"⟩, prog_14_method_143_code, 1, (Option.some Jvm.ClassFile.FieldType.boolean), 0, true, 1) rfl (by decide +kernel) rfl rfl (by decide) (fun _ => ⟨_, _, rfl⟩) (fm_m_seNot0 hinj), (List.forall_mem_cons.mpr ⟨fw_row nn_PM20_ok (x := 516) (k := 0) (mn := 348) (np := 3) (ob := true) (ci := 11) (⟨"NameNotesModel", "readOf", "(III)Z"⟩, prog_14_method_145_code, 5, (Option.some Jvm.ClassFile.FieldType.boolean), 3, true, 1) rfl (by decide +kernel) rfl rfl (by decide) (fun _ => ⟨_, _, rfl⟩) (fm_m_seOf hinj), (List.forall_mem_cons.mpr ⟨fw_row nn_PM20_ok (x := 519) (k := 0) (mn := 349) (np := 1) (ob := true) (ci := 11) (⟨"NameNotesModel", "readCompare", "(I)Z"⟩, prog_14_method_146_code, 3, (Option.some Jvm.ClassFile.FieldType.boolean), 1, true, 1) rfl (by decide +kernel) rfl rfl (by decide) (fun _ => ⟨_, _, rfl⟩) (fm_m_seCmp hinj), (fun _ h => absurd h List.not_mem_nil)⟩)⟩)⟩)⟩)⟩)⟩)⟩)⟩)⟩) (fun as σ K h => by
  obtain ⟨A, e, p, o, z, rfl, ⟨hN, hm, hs, ho⟩, h0, h1⟩ := h
  have c16 : fw_c 16 = 16 := fw_s (by decide) (by decide)
  have c20 : fw_c 20 = 20 := fw_s (by decide) (by decide)
  have c8 : fw_c 8 = 8 := fw_s (by decide) (by decide)
  have c60 : fw_c (σ 93 60) = (o : Int) := by rw [hs.1]; exact fw_s (by omega) (by omega)
  have c61 : fw_c (σ 93 61) = ((8 - 1 : Nat) : Int) := by rw [hs.2.1]; exact fw_s (by decide) (by decide)
  have u0 : ∀ {X : Prop}, fw_c 0 ≠ 0 → X := fun z => absurd fw_c0 z
  have u1 : ∀ {X : Prop}, fw_c 1 = 0 → X := fun z => absurd (fw_c1.symm.trans z) (by decide)
  have n40 : (tk e p).1 = 40 → ¬ (9 ≤ tw e p ∧ tw e p ≤ 16) := fun z y => by
    have := tw_k (e := e) (p := p) (by omega)
    omega
  refine ⟨rfl, fun G hG => ?_⟩
  -- too many, too deep
  have g64 : sn_st e p → sn_one A e 1 o p = (4, ev_st e p, o, p) → ∀ (o1 o3 : Option ab_AV) (w : Int), G 64 [some (2, 93, 0), o1, some (0, 0, w), o3] [] σ := fun y en o1 o3 w => by
    rw [en] at h0
    refine fs_m_seOne1_64 hG (mp_bad hm.1 (by decide) (fun σ' hM h10 h11 => fs_m_seOne1_69 hG ⟨fw_01, h0 (show (4 : Int) ≠ 0 by decide) σ' (ev_up hM (by decide)) ?_ h11⟩))
    have k : ¬ σ 93 7 = 1 := fun q => by
      have g := (mg_kind hm.1).2.2.1.mp q
      rcases y with y | y
      · omega
      · have := tw_k (e := e) (p := p) (by omega)
        omega
    rw [h10, if_neg k]
  have g46 : ∀ (b w : Int) (o3 : Option ab_AV), sn_st e p → ((b = 1 ∧ (tk e p).1 = 40) ∨ (b = 0 ∧ (tk e p).1 ≠ 40 ∧ w = tw e p)) → (0 ≤ w ∧ w ≤ 17) → G 46 [some (2, 93, 0), some (0, 0, b), some (0, 0, w), o3] [] σ := by
    intro b w o3 y hb hw
    refine fs_m_seOne1_46 hG ?_
    rw [c60, c61, c20, c8]
    refine ⟨fun q => g64 y ?_ _ o3 w, fun q => ⟨fun _ => ?_, fun q2 => absurd q2 (by decide)⟩⟩
    · rw [show sn_one A e 1 o p = _ from sn_one_s A e 0 o p, if_neg (fun u => u y), if_pos (by omega)]
    have en : sn_one A e 1 o p = _ := sn_one_s A e 0 o p
    rw [if_neg (fun u => u y), if_neg (by omega)] at en
    have ln : sl_one A e 1 o p = _ := sl_one_s A e 0 o p
    have co : fw_c (σ 93 60 + 1) = ((o + 1 : Nat) : Int) := by rw [hs.1]; exact fw_s (x := (o : Int) + 1) (by omega) (by omega)
    have cd : fw_c (σ 93 61 + 1) = ((8 - 0 : Nat) : Int) := by rw [hs.2.1]; exact fw_s (x := ((8 - 1 : Nat) : Int) + 1) (by decide) (by decide)
    rw [co, cd]
    have hm1 : mt_is (ab_ups (ab_ups σ 93 60 ((o + 1 : Nat) : Int)) 93 61 ((8 - 0 : Nat) : Int)) e p := mt_ups (mt_ups hm (Or.inr ⟨rfl, by decide⟩)) (Or.inr ⟨rfl, by decide⟩)
    have s1 : sm_is (ab_ups (ab_ups σ 93 60 ((o + 1 : Nat) : Int)) 93 61 ((8 - 0 : Nat) : Int)) (o + 1) (8 - 0) (z + 2) := ⟨(ab_ups_ne (by decide)).trans ab_ups_eq, ab_ups_eq, by rw [ab_ups_ne (by decide), ab_ups_ne (by decide)]; have := hs.2.2; omega⟩
    have M1 : ab_okM sm_M σ (ab_ups (ab_ups σ 93 60 ((o + 1 : Nat) : Int)) 93 61 ((8 - 0 : Nat) : Int)) := fw_okM_ups (fw_okM_ups (fw_okM_refl _ _) (by decide)) (by decide)
    have Q1 : gq σ (ab_ups (ab_ups σ 93 60 ((o + 1 : Nat) : Int)) 93 61 ((8 - 0 : Nat) : Int)) := gq_tr (gq_k (M := [(93, 60)]) okM_one (by decide)) (gq_k (M := [(93, 61)]) okM_one (by decide))
    generalize ab_ups (ab_ups σ 93 60 ((o + 1 : Nat) : Int)) 93 61 ((8 - 0 : Nat) : Int) = σ1 at hm1 s1 M1 Q1 ⊢
    refine mt_go hm1 (fun σ2 N2 hm2 => fs_m_seOne1_94 hG ?_)
    have q2 : gq σ σ2 := gq_tr Q1 (gq_k N2 (by decide))
    have M2 : ab_okM sm_M σ σ2 := ev_tr M1 (ev_up N2 (by decide))
    have s2 : sm_is σ2 (o + 1) (8 - 0) (z + 2) := sm_k s1 N2 (by decide)
    have N2' : NM σ2 A := sm_NM M2 hN
    have no : ∀ r : sn_T, sn_one A e 1 o p = r → r.1 ≠ 0 → ∀ σ' : ab_SG, ab_okM sm_M σ2 σ' → σ' 93 10 = r.1 → σ' 93 11 = r.2.1 → ∀ o1 : Option ab_AV, G 194 [some (2, 93, 0), o1, some (0, 0, w), some (0, 0, 0)] [] σ' := fun r er q σ' M a b o1 => by
      rw [er] at h0
      exact fs_m_seOne1_194 hG ⟨fw_01, h0 q _ (fw_okM_ups (ev_tr M2 M) (by decide)) ((ab_ups_ne (by decide)).trans a) ((ab_ups_ne (by decide)).trans b)⟩
    have ok : ∀ (r : sn_T) (L : sl_T), sn_one A e 1 o p = r → sl_one A e 1 o p = L → r.1 = 0 → ∀ (σ' : ab_SG) (zz h9 : Nat), z + 1 ≤ zz → h9 ≤ r.2.2.1 - o → ab_okM sm_M σ2 σ' → mt_is σ' e r.2.2.2 → sm_is σ' r.2.2.1 (8 - 0) zz → sr σ2 σ' h9 L → ∀ o1 : Option ab_AV, G 194 [some (2, 93, 0), o1, some (0, 0, w), some (0, 0, 1)] [] σ' := fun r L er el q σ' zz h9 hz hh M hm' s' R o1 => by
      rw [er, el] at h1
      have cv : fw_c (σ' 93 61 - 1) = ((8 - 1 : Nat) : Int) := by rw [s'.2.1]; exact fw_s (x := ((8 - 0 : Nat) : Int) - 1) (by decide) (by decide)
      refine fs_m_seOne1_194 hG ⟨fw_11, ?_⟩
      rw [cv]
      exact h1 q _ (fw_okM_ups (ev_tr M2 M) (by decide)) (mt_ups hm' (Or.inr ⟨rfl, by decide⟩)) ⟨(ab_ups_ne (by decide)).trans s'.1, ab_ups_eq, by rw [ab_ups_ne (by decide)]; have := s'.2.2; omega⟩ (sr_k (M := [(93, 61)]) (sr_l q2 hh R) okM_one (by decide))
    have cw : fw_c w = w := fw_s (by omega) (by omega)
    have c9 : fw_c 9 = 9 := fw_s (by decide) (by decide)
    have c10 : fw_c 10 = 10 := fw_s (by decide) (by decide)
    have c11 : fw_c 11 = 11 := fw_s (by decide) (by decide)
    have c12 : fw_c 12 = 12 := fw_s (by decide) (by decide)
    have c2 : fw_c 2 = 2 := fw_s (by decide) (by decide)
    have t1 : (fw_c 1).toNat = 1 := by rw [fw_c1]; rfl
    have t2 : (fw_c 2).toNat = 2 := by rw [c2]; rfl
    have nn := hN.1
    rw [cw, c9, c10, c11, c12, t1, t2, c2, fw_c1]
    refine ⟨fun q5 => ?_, fun q5 => ?_⟩
    · obtain ⟨n4, ew⟩ : (tk e p).1 ≠ 40 ∧ w = tw e p := by
        rcases hb with ⟨b1, -⟩ | ⟨-, k⟩
        · rw [b1] at q5
          exact u1 q5
        · exact k
      rw [if_neg n4] at en ln
      refine ⟨fun w9 => ⟨fun w10 => ⟨fun w11 => ⟨fun w12 => ?_, fun w12 => ⟨rfl, fs_m_seOne1_181 hG ?_⟩⟩, fun w11 => ⟨by decide, ?_⟩⟩, fun w10 => ⟨by decide, ?_⟩⟩, fun w9 => ?_⟩
      · rw [if_neg (by omega), if_neg (by omega), if_neg (by omega), if_neg (by omega)] at en ln
        have wk : 13 ≤ tw e p ∧ tw e p ≤ 16 := by
          have y2 := y.resolve_left n4
          omega
        rw [sk_13 wk, ← ew] at ln
        rw [← ew] at wk
        exact ⟨e, tn e p, o + 1, 8 - 0, z + 1, _, rfl, hm2, ⟨s2, by omega⟩, wk, fun q σ' M a b => fs_m_seOne1_193 hG (no _ en q σ' M a b _), fun q σ' M a b c => fs_m_seOne1_193 hG (ok _ _ en ln q σ' (z + 1) 1 (Nat.le_refl _) (by rw [sn_ms_0 q]; show 1 ≤ o + 1 - o; omega) M a b c _)⟩
      · rw [if_neg (by omega), if_neg (by omega), if_neg (by omega), if_pos (by omega), show (5 : Int) = w - 7 by omega] at ln
        rw [if_neg (by omega), if_neg (by omega), if_neg (by omega), if_pos (by omega)] at en
        rw [(NM_n N2').1]
        exact ⟨A, e, tn e p, o + 1, 8 - 0, z + 1, 0, 57, _, _, rfl, hm2, ⟨s2, by omega⟩, rm_11 N2', ⟨nn.1.1, by omega, by omega⟩, ⟨by omega, by omega⟩, fun q σ' M a b => fs_m_seOne1_184 hG (no _ en q σ' M a b _), fun q σ' M a b c => fs_m_seOne1_184 hG (ok _ _ en ln q σ' (z + 1) 1 (Nat.le_refl _) (by rw [(sn_nm_0 q).2]; show 1 ≤ o + 1 - o; omega) M a b c _)⟩
      · rw [if_neg (by omega), if_neg (by omega), if_pos (by omega), show (4 : Int) = w - 7 by omega] at ln
        rw [if_neg (by omega), if_neg (by omega), if_pos (by omega)] at en
        rw [(NM_n N2').2.2]
        exact ⟨A, e, tn e p, o + 1, 8 - 0, z + 1, 15, 59, _, _, rfl, hm2, ⟨s2, by omega⟩, rm_13 N2', ⟨nn.2.2.1.1, by omega, by omega⟩, ⟨by omega, by omega⟩, fun q σ' M a b => fs_m_seOne1_164 hG (no _ en q σ' M a b _), fun q σ' M a b c => fs_m_seOne1_164 hG (ok _ _ en ln q σ' (z + 1) 1 (Nat.le_refl _) (by rw [(sn_nm_0 q).2]; show 1 ≤ o + 1 - o; omega) M a b c _)⟩
      · rw [if_neg (by omega), if_pos (by omega), show (3 : Int) = w - 7 by omega] at ln
        rw [if_neg (by omega), if_pos (by omega)] at en
        rw [(NM_n N2').2.1]
        exact ⟨A, e, tn e p, o + 1, 8 - 0, z + 1, 9, 58, _, _, rfl, hm2, ⟨s2, by omega⟩, rm_12 N2', ⟨nn.2.1.1, by omega, by omega⟩, ⟨by omega, by omega⟩, fun q σ' M a b => fs_m_seOne1_141 hG (no _ en q σ' M a b _), fun q σ' M a b c => fs_m_seOne1_141 hG (ok _ _ en ln q σ' (z + 1) 1 (Nat.le_refl _) (by rw [(sn_nm_0 q).2]; show 1 ≤ o + 1 - o; omega) M a b c _)⟩
      · rw [if_pos (by omega)] at en ln
        exact ⟨A, e, tn e p, o + 1, z + 2, rfl, ⟨N2', hm2, s2, by omega⟩, fun q σ' M a b => fs_m_seOne1_118 hG (no _ en q σ' M a b _), fun q σ' M a b c => fs_m_seOne1_118 hG (ok _ _ en ln q σ' (z + 2) _ (by omega) (by have g := (sn_one_gr A e 0 (o + 1) (tn e p) (by omega) q).1; omega) M a b c _)⟩
    · have n4 : (tk e p).1 = 40 := by
        rcases hb with ⟨-, k⟩ | ⟨b0, -⟩
        · exact k
        · rw [b0] at q5
          exact u0 q5
      rw [if_pos n4] at en ln
      exact ⟨A, e, tn e p, o + 1, z + 2, rfl, ⟨N2', hm2, s2, by omega⟩, fun q σ' M a b => fs_m_seOne1_104 hG (no _ en q σ' M a b _), fun q σ' M a b c => fs_m_seOne1_104 hG (ok _ _ en ln q σ' (z + 3) _ (by omega) (by omega) M a b c _)⟩
  have g30 : ∀ (b w : Int) (o3 : Option ab_AV), ((b = 1 ∧ (tk e p).1 = 40) ∨ (b = 0 ∧ (tk e p).1 ≠ 40)) → ((w = tw e p ∧ 9 ≤ w ∧ w ≤ 16) ∨ (w = 17 ∧ ¬ (9 ≤ tw e p ∧ tw e p ≤ 16))) → G 30 [some (2, 93, 0), some (0, 0, b), some (0, 0, w), o3] [] σ := by
    intro b w o3 hb hw
    have cw : fw_c w = w := fw_s (by omega) (by omega)
    refine fs_m_seOne1_30 hG ?_
    rw [cw, c16]
    refine ⟨fun q => ?_, fun q => ⟨fun q2 => ?_, fun q2 => ?_⟩⟩
    · rcases hb with ⟨b1, k⟩ | ⟨b0, -⟩
      · exact g46 b w o3 (Or.inl k) (Or.inl ⟨b1, k⟩) ⟨by omega, by omega⟩
      · rw [b0] at q
        exact u0 q
    · rcases hb with ⟨b1, -⟩ | ⟨b0, k⟩
      · rw [b1] at q
        exact u1 q
      · exact g46 b w o3 (Or.inr ⟨by omega, by omega⟩) (Or.inr ⟨b0, k, by omega⟩) ⟨by omega, by omega⟩
    · rcases hb with ⟨b1, -⟩ | ⟨b0, k⟩
      · rw [b1] at q
        exact u1 q
      · have ns : ¬ sn_st e p := fun y => by
          rcases y with y | y
          · exact k y
          · omega
        have en : sn_one A e 1 o p = (1, ev_st e p, o, p) := (sn_one_s A e 0 o p).trans (if_pos ns)
        rw [en] at h0
        refine mp_bad hm.1 (by decide) (fun σ' hM h10 h11 => fs_m_seOne1_45 hG ⟨fw_01, h0 (show (1 : Int) ≠ 0 by decide) σ' (ev_up hM (by decide)) ?_ h11⟩)
        rw [h10]
        split <;> rfl
  have lw : ∀ (f w : Nat) (b : Int) (o3 : Option ab_AV), w + f = 17 → 9 ≤ w → (∀ v : Nat, 9 ≤ v → v < w → tw e p ≠ (v : Int)) → ((b = 1 ∧ (tk e p).1 = 40) ∨ (b = 0 ∧ (tk e p).1 ≠ 40)) → G 10 [some (2, 93, 0), some (0, 0, b), some (0, 0, (w : Int)), o3] [] σ := by
    intro f
    induction f with
    | zero =>
      intro w b o3 hf h9 hv hb
      have ew : w = 17 := by omega
      subst ew
      refine fs_m_seOne1_10 hG ⟨fun _ => g30 b _ o3 hb (Or.inr ⟨rfl, fun y => ?_⟩), fun q => absurd q (by rw [c16]; decide)⟩
      have := hv (tw e p).toNat (by omega) (by omega)
      omega
    | succ f ih =>
      intro w b o3 hf h9 hv hb
      have cw : fw_c (w : Int) = (w : Int) := fw_s (by omega) (by omega)
      refine fs_m_seOne1_10 hG ⟨fun q => absurd q (by rw [c16, cw]; omega), fun _ => ⟨w, e, p, rfl, by omega, hm.1, ?_⟩⟩
      by_cases c : tw e p = (w : Int)
      · rw [fw_bo_t c]
        exact fs_m_seOne1_21 hG ⟨fun _ => g30 b _ o3 hb (Or.inl ⟨c.symm, by omega, by omega⟩), u1⟩
      · rw [fw_bo_f c]
        refine fs_m_seOne1_21 hG ⟨u0, fun _ => ?_⟩
        have g := ih (w + 1) b o3 (by omega) (by omega) (fun v h1 h2 => by
          by_cases y : v = w
          · rw [y]
            exact c
          · exact hv v h1 (by omega)) hb
        rw [show ((w + 1 : Nat) : Int) = (w : Int) + 1 from rfl] at g
        exact g
  refine fs_m_seOne1_0 hG ⟨40, e, p, rfl, Or.inr (Or.inr (Or.inl rfl)), hm.1, ?_⟩
  by_cases c : (tk e p).1 = 40
  · rw [fw_bo_t c]
    exact fs_m_seOne1_6 hG (lw 8 9 1 _ rfl (by decide) (fun v h1 h2 => by omega) (Or.inl ⟨rfl, c⟩))
  · rw [fw_bo_f c]
    exact fs_m_seOne1_6 hG (lw 8 9 0 _ rfl (by decide) (fun v h1 h2 => by omega) (Or.inr ⟨rfl, c⟩)))
theorem fm_m_seNot1 (hinj : nn_inj ad) : fw_H l cy ad wr cr D 346 10 (sp_m_seNot 1) := fw_mk hinj (⟨"NameNotesModel", "readNot", "()Z"⟩, prog_14_method_143_code, 1, (Option.some Jvm.ClassFile.FieldType.boolean), 0, true, 1) rfl rfl nn_KI20_ok nn_KJ20_ok nn_PF20_ok nn_PS20_ok (by decide +kernel) rfl rfl (List.forall_mem_cons.mpr ⟨fw_row nn_PM20_ok (x := 498) (k := 0) (mn := 347) (np := 4) (ob := true) (ci := 11) (⟨"NameNotesModel", "saysOne", "(IIII)I"⟩, prog_14_method_139_code, 6, (Option.some Jvm.ClassFile.FieldType.int), 4, true, 0) rfl (by decide +kernel) rfl rfl (by decide) (fun _ => ⟨_, _, rfl⟩) (fm_m_saysOne hinj), (List.forall_mem_cons.mpr ⟨fw_row nn_PM20_ok (x := 501) (k := 0) (mn := 344) (np := 0) (ob := true) (ci := 11) (⟨"NameNotesModel", "readOne", "()Z"⟩, prog_14_method_142_code, 4, (Option.some Jvm.ClassFile.FieldType.boolean), 0, true, 1) rfl (by decide +kernel) rfl rfl (by decide) (fun _ => ⟨_, _, rfl⟩) (fm_m_seOne1 hinj), (fun _ h => absurd h List.not_mem_nil)⟩)⟩) (fun as σ K h => by
  obtain ⟨A, e, p, o, z, rfl, hp, h0, h1⟩ := h
  have u0 : ∀ {X : Prop}, fw_c 0 ≠ 0 → X := fun z => absurd fw_c0 z
  have u1 : ∀ {X : Prop}, fw_c 1 = 0 → X := fun z => absurd (fw_c1.symm.trans z) (by decide)
  refine ⟨rfl, fun G hG => fs_m_seNot1_0 hG ⟨A, e, p, o, z, rfl, hp, fun q σ' M a b => fs_m_seNot1_4 hG ⟨u0, fun _ => ⟨fw_01, h0 q σ' M a b⟩⟩, fun q σ1 M1 hm1 s1 R1 => fs_m_seNot1_4 hG ⟨fun _ => ⟨_, _, _, _, rfl, ⟨s1.2.2.1, ?_⟩, fun v σ2 M2 e59 ev hd => fs_m_seNot1_21 hG ⟨fw_11, ?_⟩⟩, u1⟩⟩⟩
  · have gr := (sn_one_gr A e 1 o p hp.2.2.2 q).2
    have := s1.2.2.2
    omega
  · exact h1 q _ (fw_okM_ups (ev_tr M1 (ev_up M2 (by decide))) (by decide)) (mt_ups (mt_M hm1 M2 (by decide) (by decide)) (Or.inr ⟨rfl, by decide⟩)) (sm_k (M := [(93, 62)]) (sm_s s1 M2 e59) okM_one (by decide)) (by
      have gr := (sn_one_gr A e 1 o p hp.2.2.2 q).2
      have b59 := s1.2.2
      refine sr_top (gq_tr R1.1 (ne_g e59 hd)) (by omega) ?_
      rw [ev]
      exact rp_not ⟨b59.1, by omega⟩ R1.2 e59 hd))
theorem fm_m_seAnd1 (hinj : nn_inj ad) : fw_H l cy ad wr cr D 343 10 (sp_m_seAnd 1) := fw_mk hinj (⟨"NameNotesModel", "readAnd", "()Z"⟩, prog_14_method_141_code, 2, (Option.some Jvm.ClassFile.FieldType.boolean), 0, true, 1) rfl rfl nn_KI20_ok nn_KJ20_ok nn_PF20_ok nn_PS20_ok (by decide +kernel) rfl rfl (List.forall_mem_cons.mpr ⟨fw_row nn_PM20_ok (x := 182) (k := 0) (mn := 212) (np := 0) (ob := true) (ci := 11) (⟨"NameNotesModel", "go", "()V"⟩, prog_14_method_17_code, 5, (Option.none : Option Jvm.ClassFile.FieldType), 0, true, 4) rfl (by decide +kernel) rfl rfl (by decide) (fun _ => ⟨_, _, rfl⟩) (fm_m_go hinj), (List.forall_mem_cons.mpr ⟨fw_row nn_PM20_ok (x := 225) (k := 0) (mn := 217) (np := 1) (ob := true) (ci := 11) (⟨"NameNotesModel", "isWord", "(I)Z"⟩, prog_14_method_20_code, 2, (Option.some Jvm.ClassFile.FieldType.boolean), 1, true, 1) rfl (by decide +kernel) rfl rfl (by decide) (fun _ => ⟨_, _, rfl⟩) (fm_m_isWord hinj), (List.forall_mem_cons.mpr ⟨fw_row nn_PM20_ok (x := 498) (k := 0) (mn := 347) (np := 4) (ob := true) (ci := 11) (⟨"NameNotesModel", "saysOne", "(IIII)I"⟩, prog_14_method_139_code, 6, (Option.some Jvm.ClassFile.FieldType.int), 4, true, 0) rfl (by decide +kernel) rfl rfl (by decide) (fun _ => ⟨_, _, rfl⟩) (fm_m_saysOne hinj), (List.forall_mem_cons.mpr ⟨fw_row nn_PM20_ok (x := 501) (k := 0) (mn := 344) (np := 0) (ob := true) (ci := 11) (⟨"NameNotesModel", "readOne", "()Z"⟩, prog_14_method_142_code, 4, (Option.some Jvm.ClassFile.FieldType.boolean), 0, true, 1) rfl (by decide +kernel) rfl rfl (by decide) (fun _ => ⟨_, _, rfl⟩) (fm_m_seOne1 hinj), (fun _ h => absurd h List.not_mem_nil)⟩)⟩)⟩)⟩) (fun as σ K h => by
  obtain ⟨A, e, p, o, z, g, rfl, ⟨hN, hm, hs, ho⟩, hg, h⟩ := h
  obtain ⟨h0, h1⟩ := h _ rfl
  have u0 : ∀ {X : Prop}, fw_c 0 ≠ 0 → X := fun z => absurd fw_c0 z
  have u1 : ∀ {X : Prop}, fw_c 1 = 0 → X := fun z => absurd (fw_c1.symm.trans z) (by decide)
  have og := sn_one_gr A e 1
  refine ⟨rfl, fun G hG => fs_m_seAnd1_0 hG ⟨A, e, p, o, z, rfl, ⟨hN, hm, hs, ho⟩, fun q σ' M a b => fs_m_seAnd1_4 hG ⟨u0, fun _ => ⟨fw_01, ?_⟩⟩, fun q σ1 M1 hm1 s1 R1 => fs_m_seAnd1_4 hG ⟨fun _ => ?_, u1⟩⟩⟩
  · rw [if_pos q] at h0
    exact h0 q σ' M a b
  · rw [if_neg (fun u => u q)] at h0 h1
    have gr := og o p ho q
    have loop : ∀ (f g1 o1 p1 : Nat) (τ : ab_SG) (a1 : Int) (LA : sl_T), 20 < f + o1 → 21 ≤ g1 + o1 → o + 1 ≤ o1 → o1 ≤ 20 → ab_okM sm_M σ τ → mt_is τ e p1 → sm_is τ o1 (8 - 1) (z + 1) → gq σ τ → rp (τ 121) (τ 93 59) (o1 - o) a1 LA → (∀ w : Bool, sl_one A e 1 o p ++ sl_lp (sn_one A e 1) (sl_one A e 1) e g w (sn_one A e 1 o p).2.2.1 (sn_one A e 1 o p).2.2.2 = LA ++ sl_lp (sn_one A e 1) (sl_one A e 1) e g1 w o1 p1) → sn_lp (sn_one A e 1) e g (sn_one A e 1 o p).2.2.1 (sn_one A e 1 o p).2.2.2 = sn_lp (sn_one A e 1) e g1 o1 p1 → G 14 [some (2, 93, 0), some (0, 0, a1)] [] τ := by
      intro f
      induction f with
      | zero =>
        intro g1 o1 p1 τ a1 LA hf _ _ h20 _ _ _ _ _ _ _
        omega
      | succ f ih =>
        intro g1 o1 p1 τ a1 LA hf hg1 ho1 h20 M hm' s' Q R hw hr
        refine fs_m_seAnd1_14 hG ⟨8, e, p1, rfl, by decide, hm'.1, ?_⟩
        show G 20 _ [(0, 0, fw_bo (tw e p1 = ((8 : Nat) : Int)))] τ
        by_cases c : tw e p1 = ((8 : Nat) : Int)
        · rw [fw_bo_t c]
          replace c : tw e p1 = 8 := c
          obtain ⟨g2, rfl⟩ : ∃ g2, g1 = g2 + 1 := ⟨g1 - 1, by omega⟩
          rw [sn_lps, if_pos (Or.inl c)] at hr
          refine fs_m_seAnd1_20 hG ⟨u1, fun _ => mt_go hm' (fun τ2 N2 hm2 => fs_m_seAnd1_27 hG ?_)⟩
          have M2 : ab_okM sm_M σ τ2 := ev_tr M (ev_up N2 (by decide))
          refine ⟨A, e, tn e p1, o1, z + 1, rfl, ⟨sm_NM M2 hN, hm2, sm_k s' N2 (by decide), h20⟩, fun q2 σ' M' a b => fs_m_seAnd1_31 hG ⟨u0, fun _ => ⟨fw_01, ?_⟩⟩, fun q2 τ3 M3 hm3 s3 R3 => fs_m_seAnd1_31 hG ⟨fun _ => ?_, u1⟩⟩
          · rw [if_pos q2] at hr
            rw [hr] at h0
            exact h0 q2 σ' (ev_tr M2 M') a b
          · rw [if_neg (fun u => u q2)] at hr
            have gr2 := og o1 (tn e p1) h20 q2
            have b59 := s3.2.2
            have Q3 : gq τ τ3 := gq_tr (gq_k N2 (by decide)) R3.1
            exact ⟨_, _, _, _, rfl, ⟨s3.2.2.1, by have := s3.2.2.2; omega⟩, fun v τ4 M4 e59 ev hd => fs_m_seAnd1_47 hG (ih g2 _ _ τ4 v (LA ++ (sl_one A e 1 o1 (tn e p1) ++ [(1, 0)])) (by omega) (by omega) (by omega) gr2.2 (ev_tr (ev_tr M2 M3) (ev_up M4 (by decide))) (mt_M hm3 M4 (by decide) (by decide)) (sm_s s3 M4 e59) (gq_tr (gq_tr Q Q3) (ne_g e59 hd)) (by
              rw [ev]
              exact rp_and (h := (sn_one A e 1 o1 (tn e p1)).2.2.1 - o) ⟨b59.1, by omega⟩ (rp_g Q3 (Nat.le_refl _) R) R3.2 e59 hd (by omega) (by omega)) (fun w => by
              rw [hw w, sl_lps, if_pos c, List.append_assoc, List.append_assoc]) hr)⟩
        · rw [fw_bo_f c]
          exact fs_m_seAnd1_20 hG ⟨fun _ => ⟨fw_11, h1 g1 o1 p1 _ hr c hg1 ho1 h20 (fw_okM_ups M (by decide)) (mt_ups hm' (Or.inr ⟨rfl, by decide⟩)) (sm_k (M := [(93, 62)]) s' okM_one (by decide)) LA hw (sr_top Q (by have := s'.2.2; omega) R)⟩, u0⟩
    exact loop 21 g _ _ σ1 _ _ (by omega) (by omega) gr.1 gr.2 M1 hm1 s1 R1.1 R1.2 (fun _ => rfl) rfl)
theorem fm_m_seOr1 (hinj : nn_inj ad) : fw_H l cy ad wr cr D 342 11 (sp_m_seOr 1) := fw_mk hinj (⟨"NameNotesModel", "readOr", "()Z"⟩, prog_14_method_140_code, 2, (Option.some Jvm.ClassFile.FieldType.boolean), 0, true, 1) rfl rfl nn_KI20_ok nn_KJ20_ok nn_PF20_ok nn_PS20_ok (by decide +kernel) rfl rfl (List.forall_mem_cons.mpr ⟨fw_row nn_PM20_ok (x := 182) (k := 0) (mn := 212) (np := 0) (ob := true) (ci := 11) (⟨"NameNotesModel", "go", "()V"⟩, prog_14_method_17_code, 5, (Option.none : Option Jvm.ClassFile.FieldType), 0, true, 4) rfl (by decide +kernel) rfl rfl (by decide) (fun _ => ⟨_, _, rfl⟩) (fm_m_go hinj), (List.forall_mem_cons.mpr ⟨fw_row nn_PM20_ok (x := 225) (k := 0) (mn := 217) (np := 1) (ob := true) (ci := 11) (⟨"NameNotesModel", "isWord", "(I)Z"⟩, prog_14_method_20_code, 2, (Option.some Jvm.ClassFile.FieldType.boolean), 1, true, 1) rfl (by decide +kernel) rfl rfl (by decide) (fun _ => ⟨_, _, rfl⟩) (fm_m_isWord hinj), (List.forall_mem_cons.mpr ⟨fw_row nn_PM20_ok (x := 492) (k := 0) (mn := 343) (np := 0) (ob := true) (ci := 11) (⟨"NameNotesModel", "readAnd", "()Z"⟩, prog_14_method_141_code, 2, (Option.some Jvm.ClassFile.FieldType.boolean), 0, true, 1) rfl (by decide +kernel) rfl rfl (by decide) (fun _ => ⟨_, _, rfl⟩) (fm_m_seAnd1 hinj), (List.forall_mem_cons.mpr ⟨fw_row nn_PM20_ok (x := 498) (k := 0) (mn := 347) (np := 4) (ob := true) (ci := 11) (⟨"NameNotesModel", "saysOne", "(IIII)I"⟩, prog_14_method_139_code, 6, (Option.some Jvm.ClassFile.FieldType.int), 4, true, 0) rfl (by decide +kernel) rfl rfl (by decide) (fun _ => ⟨_, _, rfl⟩) (fm_m_saysOne hinj), (fun _ h => absurd h List.not_mem_nil)⟩)⟩)⟩)⟩) (fun as σ K h => by
  obtain ⟨A, e, p, o, z, rfl, hp, h0, h1⟩ := h
  have u0 : ∀ {X : Prop}, fw_c 0 ≠ 0 → X := fun z => absurd fw_c0 z
  have u1 : ∀ {X : Prop}, fw_c 1 = 0 → X := fun z => absurd (fw_c1.symm.trans z) (by decide)
  refine ⟨rfl, fun G hG => ?_⟩
  have loop : ∀ (f g1 o1 p1 : Nat) (τ : ab_SG) (a1 : Int) (LO : sl_T), 20 < f + o1 → 21 ≤ g1 + o1 → o + 1 ≤ o1 → o1 ≤ 20 → tw e p1 ≠ 8 → ab_okM sm_M σ τ → mt_is τ e p1 → sm_is τ o1 (8 - 1) (z + 1) → gq σ τ → rp (τ 121) (τ 93 59) (o1 - o) a1 LO → sl_cd (sn_one A e 1) (sl_one A e 1) e o p = LO ++ sl_lp (sn_one A e 1) (sl_one A e 1) e g1 false o1 p1 → sn_cd (sn_one A e 1) e o p = sn_lp (sn_one A e 1) e g1 o1 p1 → G 14 [some (2, 93, 0), some (0, 0, a1)] [] τ := by
    intro f
    induction f with
    | zero =>
      intro g1 o1 p1 τ a1 LO hf _ _ h20 _ _ _ _ _ _ _ _
      omega
    | succ f ih =>
      intro g1 o1 p1 τ a1 LO hf hg1 ho1 h20 c8 M hm' s' Q R hw hr
      obtain ⟨g2, rfl⟩ : ∃ g2, g1 = g2 + 1 := ⟨g1 - 1, by omega⟩
      rw [sn_lps] at hr
      rw [sl_lps, if_neg c8] at hw
      refine fs_m_seOr1_14 hG ⟨7, e, p1, rfl, by decide, hm'.1, ?_⟩
      show G 20 _ [(0, 0, fw_bo (tw e p1 = ((7 : Nat) : Int)))] τ
      by_cases c : tw e p1 = ((7 : Nat) : Int)
      · rw [fw_bo_t c]
        replace c : tw e p1 = 7 := c
        rw [if_pos (Or.inr c)] at hr
        rw [if_pos c] at hw
        refine fs_m_seOr1_20 hG ⟨u1, fun _ => mt_go hm' (fun τ2 N2 hm2 => fs_m_seOr1_27 hG ?_)⟩
        have M2 : ab_okM sm_M σ τ2 := ev_tr M (ev_up N2 (by decide))
        refine ⟨A, e, tn e p1, o1, z + 1, g2, rfl, ⟨sm_NM M2 hp.1, hm2, sm_k s' N2 (by decide), h20⟩, by omega, fun F eF => ⟨fun q σ' M' a b => fs_m_seOr1_31 hG ⟨u0, fun _ => ⟨fw_01, ?_⟩⟩, fun g3 o3 p3 τ3 e3 c3 hg3 ho3 h203 M3 hm3 s3 L3 w3 R3 => fs_m_seOr1_31 hG ⟨fun _ => ?_, u1⟩⟩⟩
        · rw [hr.trans eF.symm] at h0
          exact h0 q σ' (ev_tr M2 M') a b
        · have b59 := s3.2.2
          have Q3 : gq τ τ3 := gq_tr (gq_k N2 (by decide)) R3.1
          exact ⟨_, _, _, _, rfl, ⟨s3.2.2.1, by have := s3.2.2.2; omega⟩, fun v τ4 M4 e59 ev hd => fs_m_seOr1_47 hG (ih g3 o3 p3 τ4 v (LO ++ (L3 ++ [(2, 0)])) (by omega) hg3 (by omega) h203 c3 (ev_tr (ev_tr M2 M3) (ev_up M4 (by decide))) (mt_M hm3 M4 (by decide) (by decide)) (sm_s s3 M4 e59) (gq_tr (gq_tr Q Q3) (ne_g e59 hd)) (by
            rw [ev]
            exact rp_or (h := o3 - o) ⟨b59.1, by omega⟩ (rp_g Q3 (Nat.le_refl _) R) R3.2 e59 hd (by omega) (by omega)) (by
            have w4 := w3 true
            rw [sl_lp_t c3] at w4
            rw [hw, w4, List.append_assoc, List.append_assoc]
            rfl) ((hr.trans eF.symm).trans e3))⟩
      · rw [fw_bo_f c]
        replace c : tw e p1 ≠ 7 := c
        rw [if_neg (fun u => u.elim c8 c)] at hr
        rw [if_neg c] at hw
        rw [hr, hw] at h1
        exact fs_m_seOr1_20 hG ⟨fun _ => ⟨fw_11, h1 rfl _ (fw_okM_ups M (by decide)) (mt_ups hm' (Or.inr ⟨rfl, by decide⟩)) (sm_k (M := [(93, 62)]) s' okM_one (by decide)) (by
          rw [show fl false = [] from rfl, List.append_nil]
          exact sr_top Q (by have := s'.2.2; omega) R)⟩, u0⟩
  refine fs_m_seOr1_0 hG ⟨A, e, p, o, z, 20, rfl, hp, by omega, fun F eF => ⟨fun q σ' M a b => fs_m_seOr1_4 hG ⟨u0, fun _ => ⟨fw_01, ?_⟩⟩, fun g' o' p' σ1 eq c8 hg ho1 ho2 M1 hm1 s1 LA wA RA => fs_m_seOr1_4 hG ⟨fun _ => ?_, u1⟩⟩⟩
  · have ec : sn_cd (sn_one A e 1) e o p = F := eF.symm
    rw [ec] at h0
    exact h0 q σ' M a b
  · have ec : sn_cd (sn_one A e 1) e o p = F := eF.symm
    exact loop 21 g' o' p' σ1 _ LA (by omega) hg ho1 ho2 c8 M1 hm1 s1 RA.1 RA.2 (wA false) (ec.trans eq))
theorem fm_m_seBr1 (hinj : nn_inj ad) : fw_H l cy ad wr cr D 345 12 (sp_m_seBr 1) := fw_mk hinj (⟨"NameNotesModel", "readBracket", "()Z"⟩, prog_14_method_144_code, 1, (Option.some Jvm.ClassFile.FieldType.boolean), 0, true, 1) rfl rfl nn_KI20_ok nn_KJ20_ok nn_PF20_ok nn_PS20_ok (by decide +kernel) rfl rfl (List.forall_mem_cons.mpr ⟨fw_row nn_PM20_ok (x := 168) (k := 0) (mn := 221) (np := 1) (ob := true) (ci := 11) (⟨"NameNotesModel", "bad", "(I)Z"⟩, prog_14_method_23_code, 2, (Option.some Jvm.ClassFile.FieldType.boolean), 1, true, 1) rfl (by decide +kernel) rfl rfl (by decide) (fun _ => ⟨_, _, rfl⟩) (fm_m_bad hinj), (List.forall_mem_cons.mpr ⟨fw_row nn_PM20_ok (x := 182) (k := 0) (mn := 212) (np := 0) (ob := true) (ci := 11) (⟨"NameNotesModel", "go", "()V"⟩, prog_14_method_17_code, 5, (Option.none : Option Jvm.ClassFile.FieldType), 0, true, 4) rfl (by decide +kernel) rfl rfl (by decide) (fun _ => ⟨_, _, rfl⟩) (fm_m_go hinj), (List.forall_mem_cons.mpr ⟨fw_row nn_PM20_ok (x := 185) (k := 0) (mn := 236) (np := 1) (ob := true) (ci := 11) (⟨"NameNotesModel", "isSign", "(I)Z"⟩, prog_14_method_21_code, 2, (Option.some Jvm.ClassFile.FieldType.boolean), 1, true, 1) rfl (by decide +kernel) rfl rfl (by decide) (fun _ => ⟨_, _, rfl⟩) (fm_m_isSign hinj), (List.forall_mem_cons.mpr ⟨fw_row nn_PM20_ok (x := 522) (k := 0) (mn := 342) (np := 0) (ob := true) (ci := 11) (⟨"NameNotesModel", "readOr", "()Z"⟩, prog_14_method_140_code, 2, (Option.some Jvm.ClassFile.FieldType.boolean), 0, true, 1) rfl (by decide +kernel) rfl rfl (by decide) (fun _ => ⟨_, _, rfl⟩) (fm_m_seOr1 hinj), (fun _ h => absurd h List.not_mem_nil)⟩)⟩)⟩)⟩) (fun as σ K h => by
  obtain ⟨A, e, p, o, z, rfl, hp, h0, h1⟩ := h
  have u0 : ∀ {X : Prop}, fw_c 0 ≠ 0 → X := fun z => absurd fw_c0 z
  have u1 : ∀ {X : Prop}, fw_c 1 = 0 → X := fun z => absurd (fw_c1.symm.trans z) (by decide)
  refine ⟨rfl, fun G hG => fs_m_seBr1_0 hG ⟨A, e, p, o, z, rfl, hp, ?_⟩⟩
  generalize sn_cd (sn_one A e 1) e o p = r at h0 h1 ⊢
  refine ⟨fun q σ' M a b => fs_m_seBr1_4 hG ⟨u0, fun _ => ⟨fw_01, ?_⟩⟩, fun q σ1 M1 hm1 s1 R1 => fs_m_seBr1_4 hG ⟨fun _ => ⟨41, e, r.2.2.2, rfl, Or.inr (Or.inr (Or.inr rfl)), hm1.1, ?_⟩, u1⟩⟩
  · rw [show sn_br e r = r from if_pos q] at h0
    exact h0 q σ' M a b
  · show G 15 _ [(0, 0, fw_bo ((tk e r.2.2.2).1 = 41))] σ1
    by_cases c : (tk e r.2.2.2).1 = 41
    · rw [fw_bo_t c]
      have eb : sn_br e r = (0, 0, r.2.2.1, tn e r.2.2.2) := (if_neg (fun u => u q)).trans (if_neg (fun u => u c))
      rw [eb] at h1
      exact fs_m_seBr1_15 hG ⟨fun _ => mt_go hm1 (fun σ2 N2 hm2 => fs_m_seBr1_28 hG ⟨fw_11, h1 rfl σ2 (ev_tr M1 (ev_up N2 (by decide))) hm2 (sm_k s1 N2 (by decide)) (sr_k R1 N2 (by decide))⟩), u1⟩
    · rw [fw_bo_f c]
      have eb : sn_br e r = (1, ev_st e r.2.2.2, r.2.2.1, r.2.2.2) := (if_neg (fun u => u q)).trans (if_pos c)
      rw [eb] at h0
      refine fs_m_seBr1_15 hG ⟨u0, fun _ => mp_bad hm1.1 (by decide) (fun σ' hM h10 h11 => fs_m_seBr1_23 hG ⟨fw_01, h0 (show (1 : Int) ≠ 0 by decide) σ' (ev_tr M1 (ev_up hM (by decide))) ?_ h11⟩)⟩
      rw [h10]
      split <;> rfl)
end
abbrev fk_m_seOne2 : List fw_CR := [(168, 1, true, 11, 0, sp_m_bad), (182, 0, true, 11, 1, sp_m_go), (185, 1, true, 11, 0, sp_m_isSign), (225, 1, true, 11, 2, sp_m_isWord), (261, 0, true, 11, 0, sp_m_tunes), (510, 0, true, 11, 12, sp_m_seBr 1), (513, 0, true, 11, 10, sp_m_seNot 1), (516, 3, true, 11, 3, sp_m_seOf), (519, 1, true, 11, 3, sp_m_seCmp)]
abbrev st_m_seOne2 : fw_K → fw_KR → fw_K := fw_st vwCl nn_sh nn_kd fw_kv fw_wc (nn_KI20.map (fun x => x.1)) (nn_KJ20.map (fun x => x.1)) (nn_PF20.map (fun x => x.1)) (nn_PS20.map (fun x => x.1)) fk_m_seOne2 13 nn_dt344 4 1
theorem fs_m_seOne2_0 {G : fw_K} {R : fw_KR} (hG : fw_cls st_m_seOne2 R G) {σ : ab_SG} (h : sp_m_isSign [(2, 93, 0), (0, 0, 40)] σ (fun rv σ2 => G 6 [some (2, 93, 0), none, none, none] (rv.toList ++ []) σ2)) : G 0 [some (2, 93, 0), none, none, none] [] σ := fw_on hG [6, 10, 21, 30, 45, 46, 64, 69, 94, 104, 118, 141, 164, 181, 184, 193, 194] 200 h
theorem fs_m_seOne2_6 {G : fw_K} {R : fw_KR} (hG : fw_cls st_m_seOne2 R G) {b0 : Int} {o1 o3 : Option ab_AV} {σ : ab_SG} (h : G 10 [some (2, 93, 0), some (0, 0, b0), some (0, 0, 9), o3] [] σ) : G 6 [some (2, 93, 0), o1, none, o3] [(0, 0, b0)] σ := fw_on hG [6, 10, 21, 30, 45, 46, 64, 69, 94, 104, 118, 141, 164, 181, 184, 193, 194] 200 h
theorem fs_m_seOne2_10 {G : fw_K} {R : fw_KR} (hG : fw_cls st_m_seOne2 R G) {a1 a2 : Int} {o3 : Option ab_AV} {σ : ab_SG} (h : (fw_c 16 < fw_c a2 → G 30 [some (2, 93, 0), some (0, 0, a1), some (0, 0, a2), o3] [] σ) ∧ (fw_c a2 ≤ fw_c 16 → sp_m_isWord [(2, 93, 0), (0, 0, a2)] σ (fun rv σ2 => G 21 [some (2, 93, 0), some (0, 0, a1), some (0, 0, a2), o3] (rv.toList ++ []) σ2))) : G 10 [some (2, 93, 0), some (0, 0, a1), some (0, 0, a2), o3] [] σ := fw_on hG [6, 10, 21, 30, 45, 46, 64, 69, 94, 104, 118, 141, 164, 181, 184, 193, 194] 200 h
theorem fs_m_seOne2_30 {G : fw_K} {R : fw_KR} (hG : fw_cls st_m_seOne2 R G) {a1 a2 : Int} {o3 : Option ab_AV} {σ : ab_SG} (h : (fw_c a1 ≠ 0 → G 46 [some (2, 93, 0), some (0, 0, a1), some (0, 0, a2), o3] [] σ) ∧ (fw_c a1 = 0 → (fw_c a2 ≤ fw_c 16 → G 46 [some (2, 93, 0), some (0, 0, a1), some (0, 0, a2), o3] [] σ) ∧ (fw_c 16 < fw_c a2 → sp_m_bad [(2, 93, 0), (0, 0, 1)] σ (fun rv σ2 => G 45 [some (2, 93, 0), some (0, 0, a1), some (0, 0, a2), o3] (rv.toList ++ []) σ2)))) : G 30 [some (2, 93, 0), some (0, 0, a1), some (0, 0, a2), o3] [] σ := fw_on hG [6, 10, 21, 30, 45, 46, 64, 69, 94, 104, 118, 141, 164, 181, 184, 193, 194] 200 h
theorem fs_m_seOne2_21 {G : fw_K} {R : fw_KR} (hG : fw_cls st_m_seOne2 R G) {a1 a2 b0 : Int} {o3 : Option ab_AV} {σ : ab_SG} (h : (fw_c b0 ≠ 0 → G 30 [some (2, 93, 0), some (0, 0, a1), some (0, 0, a2), o3] [] σ) ∧ (fw_c b0 = 0 → G 10 [some (2, 93, 0), some (0, 0, a1), some (0, 0, a2 + 1), o3] [] σ)) : G 21 [some (2, 93, 0), some (0, 0, a1), some (0, 0, a2), o3] [(0, 0, b0)] σ := fw_on hG [6, 10, 21, 30, 45, 46, 64, 69, 94, 104, 118, 141, 164, 181, 184, 193, 194] 200 h
theorem fs_m_seOne2_46 {G : fw_K} {R : fw_KR} (hG : fw_cls st_m_seOne2 R G) {a1 a2 : Int} {o3 : Option ab_AV} {σ : ab_SG} (h : (fw_c (σ 93 60) = fw_c 20 → G 64 [some (2, 93, 0), some (0, 0, a1), some (0, 0, a2), o3] [] σ) ∧ (fw_c (σ 93 60) ≠ fw_c 20 → (fw_c (σ 93 61) ≠ fw_c 8 → sp_m_go [(2, 93, 0)] (ab_ups (ab_ups σ 93 60 (fw_c ((σ 93 60) + 1))) 93 61 (fw_c ((σ 93 61) + 1))) (fun rv σ2 => G 94 [some (2, 93, 0), some (0, 0, a1), some (0, 0, a2), o3] (rv.toList ++ []) σ2)) ∧ (fw_c (σ 93 61) = fw_c 8 → G 64 [some (2, 93, 0), some (0, 0, a1), some (0, 0, a2), o3] [] σ))) : G 46 [some (2, 93, 0), some (0, 0, a1), some (0, 0, a2), o3] [] σ := fw_on hG [6, 10, 21, 30, 45, 46, 64, 69, 94, 104, 118, 141, 164, 181, 184, 193, 194] 200 h
theorem fs_m_seOne2_45 {G : fw_K} {R : fw_KR} (hG : fw_cls st_m_seOne2 R G) {a2 b0 : Int} {o1 o3 : Option ab_AV} {σ : ab_SG} (h : (0 ≤ fw_c b0 ∧ fw_c b0 ≤ 1) ∧ R (some (0, 0, b0)) σ) : G 45 [some (2, 93, 0), o1, some (0, 0, a2), o3] [(0, 0, b0)] σ := fw_on hG [6, 10, 21, 30, 45, 46, 64, 69, 94, 104, 118, 141, 164, 181, 184, 193, 194] 200 h
theorem fs_m_seOne2_64 {G : fw_K} {R : fw_KR} (hG : fw_cls st_m_seOne2 R G) {a2 : Int} {o1 o3 : Option ab_AV} {σ : ab_SG} (h : sp_m_bad [(2, 93, 0), (0, 0, 4)] σ (fun rv σ2 => G 69 [some (2, 93, 0), o1, some (0, 0, a2), o3] (rv.toList ++ []) σ2)) : G 64 [some (2, 93, 0), o1, some (0, 0, a2), o3] [] σ := fw_on hG [6, 10, 21, 30, 45, 46, 64, 69, 94, 104, 118, 141, 164, 181, 184, 193, 194] 200 h
theorem fs_m_seOne2_94 {G : fw_K} {R : fw_KR} (hG : fw_cls st_m_seOne2 R G) {a1 a2 : Int} {o3 : Option ab_AV} {σ : ab_SG} (h : (fw_c a1 = 0 → (fw_c a2 ≠ fw_c 9 → (fw_c a2 ≠ fw_c 10 → (fw_c a2 ≠ fw_c 11 → (fw_c a2 ≠ fw_c 12 → sp_m_seCmp [(2, 93, 0), (0, 0, a2)] σ (fun rv σ2 => G 193 [some (2, 93, 0), some (0, 0, a1), some (0, 0, a2), some (0, 0, 1)] (rv.toList ++ []) σ2)) ∧ (fw_c a2 = fw_c 12 → sp_m_tunes [(2, 93, 0)] σ (fun rv σ2 => G 181 [some (2, 93, 0), some (0, 0, a1), some (0, 0, a2), some (0, 0, 1)] (rv.toList ++ [(0, 0, 0), (0, 0, a2), (2, 93, 0)]) σ2))) ∧ (fw_c a2 = fw_c 11 → (0 ≤ fw_c 2 ∧ fw_c 2 < ((474 : Nat) : Int)) ∧ (sp_m_seOf [(2, 93, 0), (0, 0, a2), (0, 0, 15), (0, 0, σ 95 (fw_c 2).toNat)] σ (fun rv σ2 => G 164 [some (2, 93, 0), some (0, 0, a1), some (0, 0, a2), some (0, 0, 1)] (rv.toList ++ []) σ2)))) ∧ (fw_c a2 = fw_c 10 → (0 ≤ fw_c 1 ∧ fw_c 1 < ((474 : Nat) : Int)) ∧ (sp_m_seOf [(2, 93, 0), (0, 0, a2), (0, 0, 9), (0, 0, σ 95 (fw_c 1).toNat)] σ (fun rv σ2 => G 141 [some (2, 93, 0), some (0, 0, a1), some (0, 0, a2), some (0, 0, 1)] (rv.toList ++ []) σ2)))) ∧ (fw_c a2 = fw_c 9 → sp_m_seNot 1 [(2, 93, 0)] σ (fun rv σ2 => G 118 [some (2, 93, 0), some (0, 0, a1), some (0, 0, a2), some (0, 0, 1)] (rv.toList ++ []) σ2))) ∧ (fw_c a1 ≠ 0 → sp_m_seBr 1 [(2, 93, 0)] σ (fun rv σ2 => G 104 [some (2, 93, 0), some (0, 0, a1), some (0, 0, a2), some (0, 0, 1)] (rv.toList ++ []) σ2))) : G 94 [some (2, 93, 0), some (0, 0, a1), some (0, 0, a2), o3] [] σ := fw_on hG [6, 10, 21, 30, 45, 46, 64, 69, 94, 104, 118, 141, 164, 181, 184, 193, 194] 200 h
theorem fs_m_seOne2_69 {G : fw_K} {R : fw_KR} (hG : fw_cls st_m_seOne2 R G) {a2 b0 : Int} {o1 o3 : Option ab_AV} {σ : ab_SG} (h : (0 ≤ fw_c b0 ∧ fw_c b0 ≤ 1) ∧ R (some (0, 0, b0)) σ) : G 69 [some (2, 93, 0), o1, some (0, 0, a2), o3] [(0, 0, b0)] σ := fw_on hG [6, 10, 21, 30, 45, 46, 64, 69, 94, 104, 118, 141, 164, 181, 184, 193, 194] 200 h
theorem fs_m_seOne2_193 {G : fw_K} {R : fw_KR} (hG : fw_cls st_m_seOne2 R G) {a2 b0 : Int} {o1 o3 : Option ab_AV} {σ : ab_SG} (h : G 194 [some (2, 93, 0), o1, some (0, 0, a2), some (0, 0, b0)] [] σ) : G 193 [some (2, 93, 0), o1, some (0, 0, a2), o3] [(0, 0, b0)] σ := fw_on hG [6, 10, 21, 30, 45, 46, 64, 69, 94, 104, 118, 141, 164, 181, 184, 193, 194] 200 h
theorem fs_m_seOne2_181 {G : fw_K} {R : fw_KR} (hG : fw_cls st_m_seOne2 R G) {a2 b0 b1 b2 : Int} {o1 o3 : Option ab_AV} {σ : ab_SG} (h : sp_m_seOf [(2, 93, 0), (0, 0, b2), (0, 0, b1), (0, 0, b0)] σ (fun rv σ2 => G 184 [some (2, 93, 0), o1, some (0, 0, a2), o3] (rv.toList ++ []) σ2)) : G 181 [some (2, 93, 0), o1, some (0, 0, a2), o3] [(0, 0, b0), (0, 0, b1), (0, 0, b2), (2, 93, 0)] σ := fw_on hG [6, 10, 21, 30, 45, 46, 64, 69, 94, 104, 118, 141, 164, 181, 184, 193, 194] 200 h
theorem fs_m_seOne2_164 {G : fw_K} {R : fw_KR} (hG : fw_cls st_m_seOne2 R G) {a2 b0 : Int} {o1 o3 : Option ab_AV} {σ : ab_SG} (h : G 194 [some (2, 93, 0), o1, some (0, 0, a2), some (0, 0, b0)] [] σ) : G 164 [some (2, 93, 0), o1, some (0, 0, a2), o3] [(0, 0, b0)] σ := fw_on hG [6, 10, 21, 30, 45, 46, 64, 69, 94, 104, 118, 141, 164, 181, 184, 193, 194] 200 h
theorem fs_m_seOne2_141 {G : fw_K} {R : fw_KR} (hG : fw_cls st_m_seOne2 R G) {a2 b0 : Int} {o1 o3 : Option ab_AV} {σ : ab_SG} (h : G 194 [some (2, 93, 0), o1, some (0, 0, a2), some (0, 0, b0)] [] σ) : G 141 [some (2, 93, 0), o1, some (0, 0, a2), o3] [(0, 0, b0)] σ := fw_on hG [6, 10, 21, 30, 45, 46, 64, 69, 94, 104, 118, 141, 164, 181, 184, 193, 194] 200 h
theorem fs_m_seOne2_118 {G : fw_K} {R : fw_KR} (hG : fw_cls st_m_seOne2 R G) {a2 b0 : Int} {o1 o3 : Option ab_AV} {σ : ab_SG} (h : G 194 [some (2, 93, 0), o1, some (0, 0, a2), some (0, 0, b0)] [] σ) : G 118 [some (2, 93, 0), o1, some (0, 0, a2), o3] [(0, 0, b0)] σ := fw_on hG [6, 10, 21, 30, 45, 46, 64, 69, 94, 104, 118, 141, 164, 181, 184, 193, 194] 200 h
theorem fs_m_seOne2_104 {G : fw_K} {R : fw_KR} (hG : fw_cls st_m_seOne2 R G) {a2 b0 : Int} {o1 o3 : Option ab_AV} {σ : ab_SG} (h : G 194 [some (2, 93, 0), o1, some (0, 0, a2), some (0, 0, b0)] [] σ) : G 104 [some (2, 93, 0), o1, some (0, 0, a2), o3] [(0, 0, b0)] σ := fw_on hG [6, 10, 21, 30, 45, 46, 64, 69, 94, 104, 118, 141, 164, 181, 184, 193, 194] 200 h
theorem fs_m_seOne2_194 {G : fw_K} {R : fw_KR} (hG : fw_cls st_m_seOne2 R G) {a2 a3 : Int} {o1 : Option ab_AV} {σ : ab_SG} (h : (0 ≤ fw_c a3 ∧ fw_c a3 ≤ 1) ∧ R (some (0, 0, a3)) (ab_ups σ 93 61 (fw_c ((σ 93 61) - 1)))) : G 194 [some (2, 93, 0), o1, some (0, 0, a2), some (0, 0, a3)] [] σ := fw_on hG [6, 10, 21, 30, 45, 46, 64, 69, 94, 104, 118, 141, 164, 181, 184, 193, 194] 200 h
theorem fs_m_seOne2_184 {G : fw_K} {R : fw_KR} (hG : fw_cls st_m_seOne2 R G) {a2 b0 : Int} {o1 o3 : Option ab_AV} {σ : ab_SG} (h : G 194 [some (2, 93, 0), o1, some (0, 0, a2), some (0, 0, b0)] [] σ) : G 184 [some (2, 93, 0), o1, some (0, 0, a2), o3] [(0, 0, b0)] σ := fw_on hG [6, 10, 21, 30, 45, 46, 64, 69, 94, 104, 118, 141, 164, 181, 184, 193, 194] 200 h
abbrev fk_m_seAnd2 : List fw_CR := [(182, 0, true, 11, 1, sp_m_go), (225, 1, true, 11, 2, sp_m_isWord), (498, 4, true, 11, 0, sp_m_saysOne), (501, 0, true, 11, 13, sp_m_seOne 2)]
abbrev st_m_seAnd2 : fw_K → fw_KR → fw_K := fw_st vwCl nn_sh nn_kd fw_kv fw_wc (nn_KI20.map (fun x => x.1)) (nn_KJ20.map (fun x => x.1)) (nn_PF20.map (fun x => x.1)) (nn_PS20.map (fun x => x.1)) fk_m_seAnd2 14 nn_dt343 2 1
theorem fs_m_seAnd2_0 {G : fw_K} {R : fw_KR} (hG : fw_cls st_m_seAnd2 R G) {σ : ab_SG} (h : sp_m_seOne 2 [(2, 93, 0)] σ (fun rv σ2 => G 4 [some (2, 93, 0), none] (rv.toList ++ []) σ2)) : G 0 [some (2, 93, 0), none] [] σ := fw_on hG [4, 14, 20, 27, 31, 47] 200 h
theorem fs_m_seAnd2_4 {G : fw_K} {R : fw_KR} (hG : fw_cls st_m_seAnd2 R G) {b0 : Int} {o1 : Option ab_AV} {σ : ab_SG} (h : (fw_c b0 ≠ 0 → G 14 [some (2, 93, 0), some (0, 0, σ 93 62)] [] σ) ∧ (fw_c b0 = 0 → (0 ≤ fw_c 0 ∧ fw_c 0 ≤ 1) ∧ R (some (0, 0, 0)) σ)) : G 4 [some (2, 93, 0), o1] [(0, 0, b0)] σ := fw_on hG [4, 14, 20, 27, 31, 47] 200 h
theorem fs_m_seAnd2_14 {G : fw_K} {R : fw_KR} (hG : fw_cls st_m_seAnd2 R G) {a1 : Int} {σ : ab_SG} (h : sp_m_isWord [(2, 93, 0), (0, 0, 8)] σ (fun rv σ2 => G 20 [some (2, 93, 0), some (0, 0, a1)] (rv.toList ++ []) σ2)) : G 14 [some (2, 93, 0), some (0, 0, a1)] [] σ := fw_on hG [4, 14, 20, 27, 31, 47] 200 h
theorem fs_m_seAnd2_20 {G : fw_K} {R : fw_KR} (hG : fw_cls st_m_seAnd2 R G) {a1 b0 : Int} {σ : ab_SG} (h : (fw_c b0 = 0 → (0 ≤ fw_c 1 ∧ fw_c 1 ≤ 1) ∧ R (some (0, 0, 1)) (ab_ups σ 93 62 (fw_c a1))) ∧ (fw_c b0 ≠ 0 → sp_m_go [(2, 93, 0)] σ (fun rv σ2 => G 27 [some (2, 93, 0), some (0, 0, a1)] (rv.toList ++ []) σ2))) : G 20 [some (2, 93, 0), some (0, 0, a1)] [(0, 0, b0)] σ := fw_on hG [4, 14, 20, 27, 31, 47] 200 h
theorem fs_m_seAnd2_27 {G : fw_K} {R : fw_KR} (hG : fw_cls st_m_seAnd2 R G) {a1 : Int} {σ : ab_SG} (h : sp_m_seOne 2 [(2, 93, 0)] σ (fun rv σ2 => G 31 [some (2, 93, 0), some (0, 0, a1)] (rv.toList ++ []) σ2)) : G 27 [some (2, 93, 0), some (0, 0, a1)] [] σ := fw_on hG [4, 14, 20, 27, 31, 47] 200 h
theorem fs_m_seAnd2_31 {G : fw_K} {R : fw_KR} (hG : fw_cls st_m_seAnd2 R G) {a1 b0 : Int} {σ : ab_SG} (h : (fw_c b0 ≠ 0 → sp_m_saysOne [(2, 93, 0), (0, 0, 2), (0, 0, a1), (0, 0, σ 93 62), (0, 0, 0)] σ (fun rv σ2 => G 47 [some (2, 93, 0), some (0, 0, a1)] (rv.toList ++ []) σ2)) ∧ (fw_c b0 = 0 → (0 ≤ fw_c 0 ∧ fw_c 0 ≤ 1) ∧ R (some (0, 0, 0)) σ)) : G 31 [some (2, 93, 0), some (0, 0, a1)] [(0, 0, b0)] σ := fw_on hG [4, 14, 20, 27, 31, 47] 200 h
theorem fs_m_seAnd2_47 {G : fw_K} {R : fw_KR} (hG : fw_cls st_m_seAnd2 R G) {b0 : Int} {o1 : Option ab_AV} {σ : ab_SG} (h : G 14 [some (2, 93, 0), some (0, 0, b0)] [] σ) : G 47 [some (2, 93, 0), o1] [(0, 0, b0)] σ := fw_on hG [4, 14, 20, 27, 31, 47] 200 h
abbrev fk_m_seOr2 : List fw_CR := [(182, 0, true, 11, 1, sp_m_go), (225, 1, true, 11, 2, sp_m_isWord), (492, 0, true, 11, 14, sp_m_seAnd 2), (498, 4, true, 11, 0, sp_m_saysOne)]
abbrev st_m_seOr2 : fw_K → fw_KR → fw_K := fw_st vwCl nn_sh nn_kd fw_kv fw_wc (nn_KI20.map (fun x => x.1)) (nn_KJ20.map (fun x => x.1)) (nn_PF20.map (fun x => x.1)) (nn_PS20.map (fun x => x.1)) fk_m_seOr2 15 nn_dt342 2 1
theorem fs_m_seOr2_0 {G : fw_K} {R : fw_KR} (hG : fw_cls st_m_seOr2 R G) {σ : ab_SG} (h : sp_m_seAnd 2 [(2, 93, 0)] σ (fun rv σ2 => G 4 [some (2, 93, 0), none] (rv.toList ++ []) σ2)) : G 0 [some (2, 93, 0), none] [] σ := fw_on hG [4, 14, 20, 27, 31, 47] 200 h
theorem fs_m_seOr2_4 {G : fw_K} {R : fw_KR} (hG : fw_cls st_m_seOr2 R G) {b0 : Int} {o1 : Option ab_AV} {σ : ab_SG} (h : (fw_c b0 ≠ 0 → G 14 [some (2, 93, 0), some (0, 0, σ 93 62)] [] σ) ∧ (fw_c b0 = 0 → (0 ≤ fw_c 0 ∧ fw_c 0 ≤ 1) ∧ R (some (0, 0, 0)) σ)) : G 4 [some (2, 93, 0), o1] [(0, 0, b0)] σ := fw_on hG [4, 14, 20, 27, 31, 47] 200 h
theorem fs_m_seOr2_14 {G : fw_K} {R : fw_KR} (hG : fw_cls st_m_seOr2 R G) {a1 : Int} {σ : ab_SG} (h : sp_m_isWord [(2, 93, 0), (0, 0, 7)] σ (fun rv σ2 => G 20 [some (2, 93, 0), some (0, 0, a1)] (rv.toList ++ []) σ2)) : G 14 [some (2, 93, 0), some (0, 0, a1)] [] σ := fw_on hG [4, 14, 20, 27, 31, 47] 200 h
theorem fs_m_seOr2_20 {G : fw_K} {R : fw_KR} (hG : fw_cls st_m_seOr2 R G) {a1 b0 : Int} {σ : ab_SG} (h : (fw_c b0 = 0 → (0 ≤ fw_c 1 ∧ fw_c 1 ≤ 1) ∧ R (some (0, 0, 1)) (ab_ups σ 93 62 (fw_c a1))) ∧ (fw_c b0 ≠ 0 → sp_m_go [(2, 93, 0)] σ (fun rv σ2 => G 27 [some (2, 93, 0), some (0, 0, a1)] (rv.toList ++ []) σ2))) : G 20 [some (2, 93, 0), some (0, 0, a1)] [(0, 0, b0)] σ := fw_on hG [4, 14, 20, 27, 31, 47] 200 h
theorem fs_m_seOr2_27 {G : fw_K} {R : fw_KR} (hG : fw_cls st_m_seOr2 R G) {a1 : Int} {σ : ab_SG} (h : sp_m_seAnd 2 [(2, 93, 0)] σ (fun rv σ2 => G 31 [some (2, 93, 0), some (0, 0, a1)] (rv.toList ++ []) σ2)) : G 27 [some (2, 93, 0), some (0, 0, a1)] [] σ := fw_on hG [4, 14, 20, 27, 31, 47] 200 h
theorem fs_m_seOr2_31 {G : fw_K} {R : fw_KR} (hG : fw_cls st_m_seOr2 R G) {a1 b0 : Int} {σ : ab_SG} (h : (fw_c b0 ≠ 0 → sp_m_saysOne [(2, 93, 0), (0, 0, 3), (0, 0, a1), (0, 0, σ 93 62), (0, 0, 0)] σ (fun rv σ2 => G 47 [some (2, 93, 0), some (0, 0, a1)] (rv.toList ++ []) σ2)) ∧ (fw_c b0 = 0 → (0 ≤ fw_c 0 ∧ fw_c 0 ≤ 1) ∧ R (some (0, 0, 0)) σ)) : G 31 [some (2, 93, 0), some (0, 0, a1)] [(0, 0, b0)] σ := fw_on hG [4, 14, 20, 27, 31, 47] 200 h
theorem fs_m_seOr2_47 {G : fw_K} {R : fw_KR} (hG : fw_cls st_m_seOr2 R G) {b0 : Int} {o1 : Option ab_AV} {σ : ab_SG} (h : G 14 [some (2, 93, 0), some (0, 0, b0)] [] σ) : G 47 [some (2, 93, 0), o1] [(0, 0, b0)] σ := fw_on hG [4, 14, 20, 27, 31, 47] 200 h
abbrev fk_m_seBr2 : List fw_CR := [(168, 1, true, 11, 0, sp_m_bad), (182, 0, true, 11, 1, sp_m_go), (185, 1, true, 11, 0, sp_m_isSign), (522, 0, true, 11, 15, sp_m_seOr 2)]
abbrev st_m_seBr2 : fw_K → fw_KR → fw_K := fw_st vwCl nn_sh nn_kd fw_kv fw_wc (nn_KI20.map (fun x => x.1)) (nn_KJ20.map (fun x => x.1)) (nn_PF20.map (fun x => x.1)) (nn_PS20.map (fun x => x.1)) fk_m_seBr2 16 nn_dt345 1 1
theorem fs_m_seBr2_0 {G : fw_K} {R : fw_KR} (hG : fw_cls st_m_seBr2 R G) {σ : ab_SG} (h : sp_m_seOr 2 [(2, 93, 0)] σ (fun rv σ2 => G 4 [some (2, 93, 0)] (rv.toList ++ []) σ2)) : G 0 [some (2, 93, 0)] [] σ := fw_on hG [4, 15, 23, 28] 200 h
theorem fs_m_seBr2_4 {G : fw_K} {R : fw_KR} (hG : fw_cls st_m_seBr2 R G) {b0 : Int} {σ : ab_SG} (h : (fw_c b0 ≠ 0 → sp_m_isSign [(2, 93, 0), (0, 0, 41)] σ (fun rv σ2 => G 15 [some (2, 93, 0)] (rv.toList ++ []) σ2)) ∧ (fw_c b0 = 0 → (0 ≤ fw_c 0 ∧ fw_c 0 ≤ 1) ∧ R (some (0, 0, 0)) σ)) : G 4 [some (2, 93, 0)] [(0, 0, b0)] σ := fw_on hG [4, 15, 23, 28] 200 h
theorem fs_m_seBr2_15 {G : fw_K} {R : fw_KR} (hG : fw_cls st_m_seBr2 R G) {b0 : Int} {σ : ab_SG} (h : (fw_c b0 ≠ 0 → sp_m_go [(2, 93, 0)] σ (fun rv σ2 => G 28 [some (2, 93, 0)] (rv.toList ++ []) σ2)) ∧ (fw_c b0 = 0 → sp_m_bad [(2, 93, 0), (0, 0, 1)] σ (fun rv σ2 => G 23 [some (2, 93, 0)] (rv.toList ++ []) σ2))) : G 15 [some (2, 93, 0)] [(0, 0, b0)] σ := fw_on hG [4, 15, 23, 28] 200 h
theorem fs_m_seBr2_28 {G : fw_K} {R : fw_KR} (hG : fw_cls st_m_seBr2 R G) {σ : ab_SG} (h : (0 ≤ fw_c 1 ∧ fw_c 1 ≤ 1) ∧ R (some (0, 0, 1)) σ) : G 28 [some (2, 93, 0)] [] σ := fw_on hG [4, 15, 23, 28] 200 h
theorem fs_m_seBr2_23 {G : fw_K} {R : fw_KR} (hG : fw_cls st_m_seBr2 R G) {b0 : Int} {σ : ab_SG} (h : (0 ≤ fw_c b0 ∧ fw_c b0 ≤ 1) ∧ R (some (0, 0, b0)) σ) : G 23 [some (2, 93, 0)] [(0, 0, b0)] σ := fw_on hG [4, 15, 23, 28] 200 h
abbrev fk_m_seNot2 : List fw_CR := [(498, 4, true, 11, 0, sp_m_saysOne), (501, 0, true, 11, 13, sp_m_seOne 2)]
abbrev st_m_seNot2 : fw_K → fw_KR → fw_K := fw_st vwCl nn_sh nn_kd fw_kv fw_wc (nn_KI20.map (fun x => x.1)) (nn_KJ20.map (fun x => x.1)) (nn_PF20.map (fun x => x.1)) (nn_PS20.map (fun x => x.1)) fk_m_seNot2 14 nn_dt346 1 1
theorem fs_m_seNot2_0 {G : fw_K} {R : fw_KR} (hG : fw_cls st_m_seNot2 R G) {σ : ab_SG} (h : sp_m_seOne 2 [(2, 93, 0)] σ (fun rv σ2 => G 4 [some (2, 93, 0)] (rv.toList ++ []) σ2)) : G 0 [some (2, 93, 0)] [] σ := fw_on hG [4, 21] 200 h
theorem fs_m_seNot2_4 {G : fw_K} {R : fw_KR} (hG : fw_cls st_m_seNot2 R G) {b0 : Int} {σ : ab_SG} (h : (fw_c b0 ≠ 0 → sp_m_saysOne [(2, 93, 0), (0, 0, 1), (0, 0, σ 93 62), (0, 0, 0), (0, 0, 0)] σ (fun rv σ2 => G 21 [some (2, 93, 0)] (rv.toList ++ [(2, 93, 0)]) σ2)) ∧ (fw_c b0 = 0 → (0 ≤ fw_c 0 ∧ fw_c 0 ≤ 1) ∧ R (some (0, 0, 0)) σ)) : G 4 [some (2, 93, 0)] [(0, 0, b0)] σ := fw_on hG [4, 21] 200 h
theorem fs_m_seNot2_21 {G : fw_K} {R : fw_KR} (hG : fw_cls st_m_seNot2 R G) {b0 : Int} {σ : ab_SG} (h : (0 ≤ fw_c 1 ∧ fw_c 1 ≤ 1) ∧ R (some (0, 0, 1)) (ab_ups σ 93 62 (fw_c b0))) : G 21 [some (2, 93, 0)] [(0, 0, b0), (2, 93, 0)] σ := fw_on hG [4, 21] 200 h
section
variable {l : Launch} {cy : Nat → ClassId} {ad wr cr : Nat → Nat} {D : va_G}
theorem fm_m_seOne2 (hinj : nn_inj ad) : fw_H l cy ad wr cr D 344 13 (sp_m_seOne 2) := fw_mk hinj (⟨"NameNotesModel", "readOne", "()Z"⟩, prog_14_method_142_code, 4, (Option.some Jvm.ClassFile.FieldType.boolean), 0, true, 1) rfl rfl nn_KI20_ok nn_KJ20_ok nn_PF20_ok nn_PS20_ok (by decide +kernel) rfl rfl (List.forall_mem_cons.mpr ⟨fw_row nn_PM20_ok (x := 168) (k := 0) (mn := 221) (np := 1) (ob := true) (ci := 11) (⟨"NameNotesModel", "bad", "(I)Z"⟩, prog_14_method_23_code, 2, (Option.some Jvm.ClassFile.FieldType.boolean), 1, true, 1) rfl (by decide +kernel) rfl rfl (by decide) (fun _ => ⟨_, _, rfl⟩) (fm_m_bad hinj), (List.forall_mem_cons.mpr ⟨fw_row nn_PM20_ok (x := 182) (k := 0) (mn := 212) (np := 0) (ob := true) (ci := 11) (⟨"NameNotesModel", "go", "()V"⟩, prog_14_method_17_code, 5, (Option.none : Option Jvm.ClassFile.FieldType), 0, true, 4) rfl (by decide +kernel) rfl rfl (by decide) (fun _ => ⟨_, _, rfl⟩) (fm_m_go hinj), (List.forall_mem_cons.mpr ⟨fw_row nn_PM20_ok (x := 185) (k := 0) (mn := 236) (np := 1) (ob := true) (ci := 11) (⟨"NameNotesModel", "isSign", "(I)Z"⟩, prog_14_method_21_code, 2, (Option.some Jvm.ClassFile.FieldType.boolean), 1, true, 1) rfl (by decide +kernel) rfl rfl (by decide) (fun _ => ⟨_, _, rfl⟩) (fm_m_isSign hinj), (List.forall_mem_cons.mpr ⟨fw_row nn_PM20_ok (x := 225) (k := 0) (mn := 217) (np := 1) (ob := true) (ci := 11) (⟨"NameNotesModel", "isWord", "(I)Z"⟩, prog_14_method_20_code, 2, (Option.some Jvm.ClassFile.FieldType.boolean), 1, true, 1) rfl (by decide +kernel) rfl rfl (by decide) (fun _ => ⟨_, _, rfl⟩) (fm_m_isWord hinj), (List.forall_mem_cons.mpr ⟨fw_row nn_PM20_ok (x := 261) (k := 0) (mn := 240) (np := 0) (ob := true) (ci := 11) (⟨"NameNotesModel", "tunes", "()I"⟩, prog_14_method_41_code, 1, (Option.some Jvm.ClassFile.FieldType.int), 0, true, 0) rfl (by decide +kernel) rfl rfl (by decide) (fun _ => ⟨_, _, rfl⟩) (fm_m_tunes hinj), (List.forall_mem_cons.mpr ⟨fw_row nn_PM20_ok (x := 510) (k := 0) (mn := 345) (np := 0) (ob := true) (ci := 11) (⟨"NameNotesModel", "readBracket", "()Z"⟩, prog_14_method_144_code, 1, (Option.some Jvm.ClassFile.FieldType.boolean), 0, true, 1) rfl (by decide +kernel) rfl rfl (by decide) (fun _ => ⟨_, _, rfl⟩) (fm_m_seBr1 hinj), (List.forall_mem_cons.mpr ⟨fw_row nn_PM20_ok (x := 513) (k := 0) (mn := 346) (np := 0) (ob := true) (ci := 11) (⟨"NameNotesModel", "readNot", "()Z"⟩, prog_14_method_143_code, 1, (Option.some Jvm.ClassFile.FieldType.boolean), 0, true, 1) rfl (by decide +kernel) rfl rfl (by decide) (fun _ => ⟨_, _, rfl⟩) (fm_m_seNot1 hinj), (List.forall_mem_cons.mpr ⟨fw_row nn_PM20_ok (x := 516) (k := 0) (mn := 348) (np := 3) (ob := true) (ci := 11) (⟨"NameNotesModel", "readOf", "(III)Z"⟩, prog_14_method_145_code, 5, (Option.some Jvm.ClassFile.FieldType.boolean), 3, true, 1) rfl (by decide +kernel) rfl rfl (by decide) (fun _ => ⟨_, _, rfl⟩) (fm_m_seOf hinj), (List.forall_mem_cons.mpr ⟨fw_row nn_PM20_ok (x := 519) (k := 0) (mn := 349) (np := 1) (ob := true) (ci := 11) (⟨"NameNotesModel", "readCompare", "(I)Z"⟩, prog_14_method_146_code, 3, (Option.some Jvm.ClassFile.FieldType.boolean), 1, true, 1) rfl (by decide +kernel) rfl rfl (by decide) (fun _ => ⟨_, _, rfl⟩) (fm_m_seCmp hinj), (fun _ h => absurd h List.not_mem_nil)⟩)⟩)⟩)⟩)⟩)⟩)⟩)⟩)⟩) (fun as σ K h => by
  obtain ⟨A, e, p, o, z, rfl, ⟨hN, hm, hs, ho⟩, h0, h1⟩ := h
  have c16 : fw_c 16 = 16 := fw_s (by decide) (by decide)
  have c20 : fw_c 20 = 20 := fw_s (by decide) (by decide)
  have c8 : fw_c 8 = 8 := fw_s (by decide) (by decide)
  have c60 : fw_c (σ 93 60) = (o : Int) := by rw [hs.1]; exact fw_s (by omega) (by omega)
  have c61 : fw_c (σ 93 61) = ((8 - 2 : Nat) : Int) := by rw [hs.2.1]; exact fw_s (by decide) (by decide)
  have u0 : ∀ {X : Prop}, fw_c 0 ≠ 0 → X := fun z => absurd fw_c0 z
  have u1 : ∀ {X : Prop}, fw_c 1 = 0 → X := fun z => absurd (fw_c1.symm.trans z) (by decide)
  have n40 : (tk e p).1 = 40 → ¬ (9 ≤ tw e p ∧ tw e p ≤ 16) := fun z y => by
    have := tw_k (e := e) (p := p) (by omega)
    omega
  refine ⟨rfl, fun G hG => ?_⟩
  -- too many, too deep
  have g64 : sn_st e p → sn_one A e 2 o p = (4, ev_st e p, o, p) → ∀ (o1 o3 : Option ab_AV) (w : Int), G 64 [some (2, 93, 0), o1, some (0, 0, w), o3] [] σ := fun y en o1 o3 w => by
    rw [en] at h0
    refine fs_m_seOne2_64 hG (mp_bad hm.1 (by decide) (fun σ' hM h10 h11 => fs_m_seOne2_69 hG ⟨fw_01, h0 (show (4 : Int) ≠ 0 by decide) σ' (ev_up hM (by decide)) ?_ h11⟩))
    have k : ¬ σ 93 7 = 1 := fun q => by
      have g := (mg_kind hm.1).2.2.1.mp q
      rcases y with y | y
      · omega
      · have := tw_k (e := e) (p := p) (by omega)
        omega
    rw [h10, if_neg k]
  have g46 : ∀ (b w : Int) (o3 : Option ab_AV), sn_st e p → ((b = 1 ∧ (tk e p).1 = 40) ∨ (b = 0 ∧ (tk e p).1 ≠ 40 ∧ w = tw e p)) → (0 ≤ w ∧ w ≤ 17) → G 46 [some (2, 93, 0), some (0, 0, b), some (0, 0, w), o3] [] σ := by
    intro b w o3 y hb hw
    refine fs_m_seOne2_46 hG ?_
    rw [c60, c61, c20, c8]
    refine ⟨fun q => g64 y ?_ _ o3 w, fun q => ⟨fun _ => ?_, fun q2 => absurd q2 (by decide)⟩⟩
    · rw [show sn_one A e 2 o p = _ from sn_one_s A e 1 o p, if_neg (fun u => u y), if_pos (by omega)]
    have en : sn_one A e 2 o p = _ := sn_one_s A e 1 o p
    rw [if_neg (fun u => u y), if_neg (by omega)] at en
    have ln : sl_one A e 2 o p = _ := sl_one_s A e 1 o p
    have co : fw_c (σ 93 60 + 1) = ((o + 1 : Nat) : Int) := by rw [hs.1]; exact fw_s (x := (o : Int) + 1) (by omega) (by omega)
    have cd : fw_c (σ 93 61 + 1) = ((8 - 1 : Nat) : Int) := by rw [hs.2.1]; exact fw_s (x := ((8 - 2 : Nat) : Int) + 1) (by decide) (by decide)
    rw [co, cd]
    have hm1 : mt_is (ab_ups (ab_ups σ 93 60 ((o + 1 : Nat) : Int)) 93 61 ((8 - 1 : Nat) : Int)) e p := mt_ups (mt_ups hm (Or.inr ⟨rfl, by decide⟩)) (Or.inr ⟨rfl, by decide⟩)
    have s1 : sm_is (ab_ups (ab_ups σ 93 60 ((o + 1 : Nat) : Int)) 93 61 ((8 - 1 : Nat) : Int)) (o + 1) (8 - 1) (z + 2) := ⟨(ab_ups_ne (by decide)).trans ab_ups_eq, ab_ups_eq, by rw [ab_ups_ne (by decide), ab_ups_ne (by decide)]; have := hs.2.2; omega⟩
    have M1 : ab_okM sm_M σ (ab_ups (ab_ups σ 93 60 ((o + 1 : Nat) : Int)) 93 61 ((8 - 1 : Nat) : Int)) := fw_okM_ups (fw_okM_ups (fw_okM_refl _ _) (by decide)) (by decide)
    have Q1 : gq σ (ab_ups (ab_ups σ 93 60 ((o + 1 : Nat) : Int)) 93 61 ((8 - 1 : Nat) : Int)) := gq_tr (gq_k (M := [(93, 60)]) okM_one (by decide)) (gq_k (M := [(93, 61)]) okM_one (by decide))
    generalize ab_ups (ab_ups σ 93 60 ((o + 1 : Nat) : Int)) 93 61 ((8 - 1 : Nat) : Int) = σ1 at hm1 s1 M1 Q1 ⊢
    refine mt_go hm1 (fun σ2 N2 hm2 => fs_m_seOne2_94 hG ?_)
    have q2 : gq σ σ2 := gq_tr Q1 (gq_k N2 (by decide))
    have M2 : ab_okM sm_M σ σ2 := ev_tr M1 (ev_up N2 (by decide))
    have s2 : sm_is σ2 (o + 1) (8 - 1) (z + 2) := sm_k s1 N2 (by decide)
    have N2' : NM σ2 A := sm_NM M2 hN
    have no : ∀ r : sn_T, sn_one A e 2 o p = r → r.1 ≠ 0 → ∀ σ' : ab_SG, ab_okM sm_M σ2 σ' → σ' 93 10 = r.1 → σ' 93 11 = r.2.1 → ∀ o1 : Option ab_AV, G 194 [some (2, 93, 0), o1, some (0, 0, w), some (0, 0, 0)] [] σ' := fun r er q σ' M a b o1 => by
      rw [er] at h0
      exact fs_m_seOne2_194 hG ⟨fw_01, h0 q _ (fw_okM_ups (ev_tr M2 M) (by decide)) ((ab_ups_ne (by decide)).trans a) ((ab_ups_ne (by decide)).trans b)⟩
    have ok : ∀ (r : sn_T) (L : sl_T), sn_one A e 2 o p = r → sl_one A e 2 o p = L → r.1 = 0 → ∀ (σ' : ab_SG) (zz h9 : Nat), z + 1 ≤ zz → h9 ≤ r.2.2.1 - o → ab_okM sm_M σ2 σ' → mt_is σ' e r.2.2.2 → sm_is σ' r.2.2.1 (8 - 1) zz → sr σ2 σ' h9 L → ∀ o1 : Option ab_AV, G 194 [some (2, 93, 0), o1, some (0, 0, w), some (0, 0, 1)] [] σ' := fun r L er el q σ' zz h9 hz hh M hm' s' R o1 => by
      rw [er, el] at h1
      have cv : fw_c (σ' 93 61 - 1) = ((8 - 2 : Nat) : Int) := by rw [s'.2.1]; exact fw_s (x := ((8 - 1 : Nat) : Int) - 1) (by decide) (by decide)
      refine fs_m_seOne2_194 hG ⟨fw_11, ?_⟩
      rw [cv]
      exact h1 q _ (fw_okM_ups (ev_tr M2 M) (by decide)) (mt_ups hm' (Or.inr ⟨rfl, by decide⟩)) ⟨(ab_ups_ne (by decide)).trans s'.1, ab_ups_eq, by rw [ab_ups_ne (by decide)]; have := s'.2.2; omega⟩ (sr_k (M := [(93, 61)]) (sr_l q2 hh R) okM_one (by decide))
    have cw : fw_c w = w := fw_s (by omega) (by omega)
    have c9 : fw_c 9 = 9 := fw_s (by decide) (by decide)
    have c10 : fw_c 10 = 10 := fw_s (by decide) (by decide)
    have c11 : fw_c 11 = 11 := fw_s (by decide) (by decide)
    have c12 : fw_c 12 = 12 := fw_s (by decide) (by decide)
    have c2 : fw_c 2 = 2 := fw_s (by decide) (by decide)
    have t1 : (fw_c 1).toNat = 1 := by rw [fw_c1]; rfl
    have t2 : (fw_c 2).toNat = 2 := by rw [c2]; rfl
    have nn := hN.1
    rw [cw, c9, c10, c11, c12, t1, t2, c2, fw_c1]
    refine ⟨fun q5 => ?_, fun q5 => ?_⟩
    · obtain ⟨n4, ew⟩ : (tk e p).1 ≠ 40 ∧ w = tw e p := by
        rcases hb with ⟨b1, -⟩ | ⟨-, k⟩
        · rw [b1] at q5
          exact u1 q5
        · exact k
      rw [if_neg n4] at en ln
      refine ⟨fun w9 => ⟨fun w10 => ⟨fun w11 => ⟨fun w12 => ?_, fun w12 => ⟨rfl, fs_m_seOne2_181 hG ?_⟩⟩, fun w11 => ⟨by decide, ?_⟩⟩, fun w10 => ⟨by decide, ?_⟩⟩, fun w9 => ?_⟩
      · rw [if_neg (by omega), if_neg (by omega), if_neg (by omega), if_neg (by omega)] at en ln
        have wk : 13 ≤ tw e p ∧ tw e p ≤ 16 := by
          have y2 := y.resolve_left n4
          omega
        rw [sk_13 wk, ← ew] at ln
        rw [← ew] at wk
        exact ⟨e, tn e p, o + 1, 8 - 1, z + 1, _, rfl, hm2, ⟨s2, by omega⟩, wk, fun q σ' M a b => fs_m_seOne2_193 hG (no _ en q σ' M a b _), fun q σ' M a b c => fs_m_seOne2_193 hG (ok _ _ en ln q σ' (z + 1) 1 (Nat.le_refl _) (by rw [sn_ms_0 q]; show 1 ≤ o + 1 - o; omega) M a b c _)⟩
      · rw [if_neg (by omega), if_neg (by omega), if_neg (by omega), if_pos (by omega), show (5 : Int) = w - 7 by omega] at ln
        rw [if_neg (by omega), if_neg (by omega), if_neg (by omega), if_pos (by omega)] at en
        rw [(NM_n N2').1]
        exact ⟨A, e, tn e p, o + 1, 8 - 1, z + 1, 0, 57, _, _, rfl, hm2, ⟨s2, by omega⟩, rm_11 N2', ⟨nn.1.1, by omega, by omega⟩, ⟨by omega, by omega⟩, fun q σ' M a b => fs_m_seOne2_184 hG (no _ en q σ' M a b _), fun q σ' M a b c => fs_m_seOne2_184 hG (ok _ _ en ln q σ' (z + 1) 1 (Nat.le_refl _) (by rw [(sn_nm_0 q).2]; show 1 ≤ o + 1 - o; omega) M a b c _)⟩
      · rw [if_neg (by omega), if_neg (by omega), if_pos (by omega), show (4 : Int) = w - 7 by omega] at ln
        rw [if_neg (by omega), if_neg (by omega), if_pos (by omega)] at en
        rw [(NM_n N2').2.2]
        exact ⟨A, e, tn e p, o + 1, 8 - 1, z + 1, 15, 59, _, _, rfl, hm2, ⟨s2, by omega⟩, rm_13 N2', ⟨nn.2.2.1.1, by omega, by omega⟩, ⟨by omega, by omega⟩, fun q σ' M a b => fs_m_seOne2_164 hG (no _ en q σ' M a b _), fun q σ' M a b c => fs_m_seOne2_164 hG (ok _ _ en ln q σ' (z + 1) 1 (Nat.le_refl _) (by rw [(sn_nm_0 q).2]; show 1 ≤ o + 1 - o; omega) M a b c _)⟩
      · rw [if_neg (by omega), if_pos (by omega), show (3 : Int) = w - 7 by omega] at ln
        rw [if_neg (by omega), if_pos (by omega)] at en
        rw [(NM_n N2').2.1]
        exact ⟨A, e, tn e p, o + 1, 8 - 1, z + 1, 9, 58, _, _, rfl, hm2, ⟨s2, by omega⟩, rm_12 N2', ⟨nn.2.1.1, by omega, by omega⟩, ⟨by omega, by omega⟩, fun q σ' M a b => fs_m_seOne2_141 hG (no _ en q σ' M a b _), fun q σ' M a b c => fs_m_seOne2_141 hG (ok _ _ en ln q σ' (z + 1) 1 (Nat.le_refl _) (by rw [(sn_nm_0 q).2]; show 1 ≤ o + 1 - o; omega) M a b c _)⟩
      · rw [if_pos (by omega)] at en ln
        exact ⟨A, e, tn e p, o + 1, z + 2, rfl, ⟨N2', hm2, s2, by omega⟩, fun q σ' M a b => fs_m_seOne2_118 hG (no _ en q σ' M a b _), fun q σ' M a b c => fs_m_seOne2_118 hG (ok _ _ en ln q σ' (z + 2) _ (by omega) (by have g := (sn_one_gr A e 1 (o + 1) (tn e p) (by omega) q).1; omega) M a b c _)⟩
    · have n4 : (tk e p).1 = 40 := by
        rcases hb with ⟨-, k⟩ | ⟨b0, -⟩
        · exact k
        · rw [b0] at q5
          exact u0 q5
      rw [if_pos n4] at en ln
      exact ⟨A, e, tn e p, o + 1, z + 2, rfl, ⟨N2', hm2, s2, by omega⟩, fun q σ' M a b => fs_m_seOne2_104 hG (no _ en q σ' M a b _), fun q σ' M a b c => fs_m_seOne2_104 hG (ok _ _ en ln q σ' (z + 3) _ (by omega) (by omega) M a b c _)⟩
  have g30 : ∀ (b w : Int) (o3 : Option ab_AV), ((b = 1 ∧ (tk e p).1 = 40) ∨ (b = 0 ∧ (tk e p).1 ≠ 40)) → ((w = tw e p ∧ 9 ≤ w ∧ w ≤ 16) ∨ (w = 17 ∧ ¬ (9 ≤ tw e p ∧ tw e p ≤ 16))) → G 30 [some (2, 93, 0), some (0, 0, b), some (0, 0, w), o3] [] σ := by
    intro b w o3 hb hw
    have cw : fw_c w = w := fw_s (by omega) (by omega)
    refine fs_m_seOne2_30 hG ?_
    rw [cw, c16]
    refine ⟨fun q => ?_, fun q => ⟨fun q2 => ?_, fun q2 => ?_⟩⟩
    · rcases hb with ⟨b1, k⟩ | ⟨b0, -⟩
      · exact g46 b w o3 (Or.inl k) (Or.inl ⟨b1, k⟩) ⟨by omega, by omega⟩
      · rw [b0] at q
        exact u0 q
    · rcases hb with ⟨b1, -⟩ | ⟨b0, k⟩
      · rw [b1] at q
        exact u1 q
      · exact g46 b w o3 (Or.inr ⟨by omega, by omega⟩) (Or.inr ⟨b0, k, by omega⟩) ⟨by omega, by omega⟩
    · rcases hb with ⟨b1, -⟩ | ⟨b0, k⟩
      · rw [b1] at q
        exact u1 q
      · have ns : ¬ sn_st e p := fun y => by
          rcases y with y | y
          · exact k y
          · omega
        have en : sn_one A e 2 o p = (1, ev_st e p, o, p) := (sn_one_s A e 1 o p).trans (if_pos ns)
        rw [en] at h0
        refine mp_bad hm.1 (by decide) (fun σ' hM h10 h11 => fs_m_seOne2_45 hG ⟨fw_01, h0 (show (1 : Int) ≠ 0 by decide) σ' (ev_up hM (by decide)) ?_ h11⟩)
        rw [h10]
        split <;> rfl
  have lw : ∀ (f w : Nat) (b : Int) (o3 : Option ab_AV), w + f = 17 → 9 ≤ w → (∀ v : Nat, 9 ≤ v → v < w → tw e p ≠ (v : Int)) → ((b = 1 ∧ (tk e p).1 = 40) ∨ (b = 0 ∧ (tk e p).1 ≠ 40)) → G 10 [some (2, 93, 0), some (0, 0, b), some (0, 0, (w : Int)), o3] [] σ := by
    intro f
    induction f with
    | zero =>
      intro w b o3 hf h9 hv hb
      have ew : w = 17 := by omega
      subst ew
      refine fs_m_seOne2_10 hG ⟨fun _ => g30 b _ o3 hb (Or.inr ⟨rfl, fun y => ?_⟩), fun q => absurd q (by rw [c16]; decide)⟩
      have := hv (tw e p).toNat (by omega) (by omega)
      omega
    | succ f ih =>
      intro w b o3 hf h9 hv hb
      have cw : fw_c (w : Int) = (w : Int) := fw_s (by omega) (by omega)
      refine fs_m_seOne2_10 hG ⟨fun q => absurd q (by rw [c16, cw]; omega), fun _ => ⟨w, e, p, rfl, by omega, hm.1, ?_⟩⟩
      by_cases c : tw e p = (w : Int)
      · rw [fw_bo_t c]
        exact fs_m_seOne2_21 hG ⟨fun _ => g30 b _ o3 hb (Or.inl ⟨c.symm, by omega, by omega⟩), u1⟩
      · rw [fw_bo_f c]
        refine fs_m_seOne2_21 hG ⟨u0, fun _ => ?_⟩
        have g := ih (w + 1) b o3 (by omega) (by omega) (fun v h1 h2 => by
          by_cases y : v = w
          · rw [y]
            exact c
          · exact hv v h1 (by omega)) hb
        rw [show ((w + 1 : Nat) : Int) = (w : Int) + 1 from rfl] at g
        exact g
  refine fs_m_seOne2_0 hG ⟨40, e, p, rfl, Or.inr (Or.inr (Or.inl rfl)), hm.1, ?_⟩
  by_cases c : (tk e p).1 = 40
  · rw [fw_bo_t c]
    exact fs_m_seOne2_6 hG (lw 8 9 1 _ rfl (by decide) (fun v h1 h2 => by omega) (Or.inl ⟨rfl, c⟩))
  · rw [fw_bo_f c]
    exact fs_m_seOne2_6 hG (lw 8 9 0 _ rfl (by decide) (fun v h1 h2 => by omega) (Or.inr ⟨rfl, c⟩)))
theorem fm_m_seNot2 (hinj : nn_inj ad) : fw_H l cy ad wr cr D 346 14 (sp_m_seNot 2) := fw_mk hinj (⟨"NameNotesModel", "readNot", "()Z"⟩, prog_14_method_143_code, 1, (Option.some Jvm.ClassFile.FieldType.boolean), 0, true, 1) rfl rfl nn_KI20_ok nn_KJ20_ok nn_PF20_ok nn_PS20_ok (by decide +kernel) rfl rfl (List.forall_mem_cons.mpr ⟨fw_row nn_PM20_ok (x := 498) (k := 0) (mn := 347) (np := 4) (ob := true) (ci := 11) (⟨"NameNotesModel", "saysOne", "(IIII)I"⟩, prog_14_method_139_code, 6, (Option.some Jvm.ClassFile.FieldType.int), 4, true, 0) rfl (by decide +kernel) rfl rfl (by decide) (fun _ => ⟨_, _, rfl⟩) (fm_m_saysOne hinj), (List.forall_mem_cons.mpr ⟨fw_row nn_PM20_ok (x := 501) (k := 0) (mn := 344) (np := 0) (ob := true) (ci := 11) (⟨"NameNotesModel", "readOne", "()Z"⟩, prog_14_method_142_code, 4, (Option.some Jvm.ClassFile.FieldType.boolean), 0, true, 1) rfl (by decide +kernel) rfl rfl (by decide) (fun _ => ⟨_, _, rfl⟩) (fm_m_seOne2 hinj), (fun _ h => absurd h List.not_mem_nil)⟩)⟩) (fun as σ K h => by
  obtain ⟨A, e, p, o, z, rfl, hp, h0, h1⟩ := h
  have u0 : ∀ {X : Prop}, fw_c 0 ≠ 0 → X := fun z => absurd fw_c0 z
  have u1 : ∀ {X : Prop}, fw_c 1 = 0 → X := fun z => absurd (fw_c1.symm.trans z) (by decide)
  refine ⟨rfl, fun G hG => fs_m_seNot2_0 hG ⟨A, e, p, o, z, rfl, hp, fun q σ' M a b => fs_m_seNot2_4 hG ⟨u0, fun _ => ⟨fw_01, h0 q σ' M a b⟩⟩, fun q σ1 M1 hm1 s1 R1 => fs_m_seNot2_4 hG ⟨fun _ => ⟨_, _, _, _, rfl, ⟨s1.2.2.1, ?_⟩, fun v σ2 M2 e59 ev hd => fs_m_seNot2_21 hG ⟨fw_11, ?_⟩⟩, u1⟩⟩⟩
  · have gr := (sn_one_gr A e 2 o p hp.2.2.2 q).2
    have := s1.2.2.2
    omega
  · exact h1 q _ (fw_okM_ups (ev_tr M1 (ev_up M2 (by decide))) (by decide)) (mt_ups (mt_M hm1 M2 (by decide) (by decide)) (Or.inr ⟨rfl, by decide⟩)) (sm_k (M := [(93, 62)]) (sm_s s1 M2 e59) okM_one (by decide)) (by
      have gr := (sn_one_gr A e 2 o p hp.2.2.2 q).2
      have b59 := s1.2.2
      refine sr_top (gq_tr R1.1 (ne_g e59 hd)) (by omega) ?_
      rw [ev]
      exact rp_not ⟨b59.1, by omega⟩ R1.2 e59 hd))
theorem fm_m_seAnd2 (hinj : nn_inj ad) : fw_H l cy ad wr cr D 343 14 (sp_m_seAnd 2) := fw_mk hinj (⟨"NameNotesModel", "readAnd", "()Z"⟩, prog_14_method_141_code, 2, (Option.some Jvm.ClassFile.FieldType.boolean), 0, true, 1) rfl rfl nn_KI20_ok nn_KJ20_ok nn_PF20_ok nn_PS20_ok (by decide +kernel) rfl rfl (List.forall_mem_cons.mpr ⟨fw_row nn_PM20_ok (x := 182) (k := 0) (mn := 212) (np := 0) (ob := true) (ci := 11) (⟨"NameNotesModel", "go", "()V"⟩, prog_14_method_17_code, 5, (Option.none : Option Jvm.ClassFile.FieldType), 0, true, 4) rfl (by decide +kernel) rfl rfl (by decide) (fun _ => ⟨_, _, rfl⟩) (fm_m_go hinj), (List.forall_mem_cons.mpr ⟨fw_row nn_PM20_ok (x := 225) (k := 0) (mn := 217) (np := 1) (ob := true) (ci := 11) (⟨"NameNotesModel", "isWord", "(I)Z"⟩, prog_14_method_20_code, 2, (Option.some Jvm.ClassFile.FieldType.boolean), 1, true, 1) rfl (by decide +kernel) rfl rfl (by decide) (fun _ => ⟨_, _, rfl⟩) (fm_m_isWord hinj), (List.forall_mem_cons.mpr ⟨fw_row nn_PM20_ok (x := 498) (k := 0) (mn := 347) (np := 4) (ob := true) (ci := 11) (⟨"NameNotesModel", "saysOne", "(IIII)I"⟩, prog_14_method_139_code, 6, (Option.some Jvm.ClassFile.FieldType.int), 4, true, 0) rfl (by decide +kernel) rfl rfl (by decide) (fun _ => ⟨_, _, rfl⟩) (fm_m_saysOne hinj), (List.forall_mem_cons.mpr ⟨fw_row nn_PM20_ok (x := 501) (k := 0) (mn := 344) (np := 0) (ob := true) (ci := 11) (⟨"NameNotesModel", "readOne", "()Z"⟩, prog_14_method_142_code, 4, (Option.some Jvm.ClassFile.FieldType.boolean), 0, true, 1) rfl (by decide +kernel) rfl rfl (by decide) (fun _ => ⟨_, _, rfl⟩) (fm_m_seOne2 hinj), (fun _ h => absurd h List.not_mem_nil)⟩)⟩)⟩)⟩) (fun as σ K h => by
  obtain ⟨A, e, p, o, z, g, rfl, ⟨hN, hm, hs, ho⟩, hg, h⟩ := h
  obtain ⟨h0, h1⟩ := h _ rfl
  have u0 : ∀ {X : Prop}, fw_c 0 ≠ 0 → X := fun z => absurd fw_c0 z
  have u1 : ∀ {X : Prop}, fw_c 1 = 0 → X := fun z => absurd (fw_c1.symm.trans z) (by decide)
  have og := sn_one_gr A e 2
  refine ⟨rfl, fun G hG => fs_m_seAnd2_0 hG ⟨A, e, p, o, z, rfl, ⟨hN, hm, hs, ho⟩, fun q σ' M a b => fs_m_seAnd2_4 hG ⟨u0, fun _ => ⟨fw_01, ?_⟩⟩, fun q σ1 M1 hm1 s1 R1 => fs_m_seAnd2_4 hG ⟨fun _ => ?_, u1⟩⟩⟩
  · rw [if_pos q] at h0
    exact h0 q σ' M a b
  · rw [if_neg (fun u => u q)] at h0 h1
    have gr := og o p ho q
    have loop : ∀ (f g1 o1 p1 : Nat) (τ : ab_SG) (a1 : Int) (LA : sl_T), 20 < f + o1 → 21 ≤ g1 + o1 → o + 1 ≤ o1 → o1 ≤ 20 → ab_okM sm_M σ τ → mt_is τ e p1 → sm_is τ o1 (8 - 2) (z + 1) → gq σ τ → rp (τ 121) (τ 93 59) (o1 - o) a1 LA → (∀ w : Bool, sl_one A e 2 o p ++ sl_lp (sn_one A e 2) (sl_one A e 2) e g w (sn_one A e 2 o p).2.2.1 (sn_one A e 2 o p).2.2.2 = LA ++ sl_lp (sn_one A e 2) (sl_one A e 2) e g1 w o1 p1) → sn_lp (sn_one A e 2) e g (sn_one A e 2 o p).2.2.1 (sn_one A e 2 o p).2.2.2 = sn_lp (sn_one A e 2) e g1 o1 p1 → G 14 [some (2, 93, 0), some (0, 0, a1)] [] τ := by
      intro f
      induction f with
      | zero =>
        intro g1 o1 p1 τ a1 LA hf _ _ h20 _ _ _ _ _ _ _
        omega
      | succ f ih =>
        intro g1 o1 p1 τ a1 LA hf hg1 ho1 h20 M hm' s' Q R hw hr
        refine fs_m_seAnd2_14 hG ⟨8, e, p1, rfl, by decide, hm'.1, ?_⟩
        show G 20 _ [(0, 0, fw_bo (tw e p1 = ((8 : Nat) : Int)))] τ
        by_cases c : tw e p1 = ((8 : Nat) : Int)
        · rw [fw_bo_t c]
          replace c : tw e p1 = 8 := c
          obtain ⟨g2, rfl⟩ : ∃ g2, g1 = g2 + 1 := ⟨g1 - 1, by omega⟩
          rw [sn_lps, if_pos (Or.inl c)] at hr
          refine fs_m_seAnd2_20 hG ⟨u1, fun _ => mt_go hm' (fun τ2 N2 hm2 => fs_m_seAnd2_27 hG ?_)⟩
          have M2 : ab_okM sm_M σ τ2 := ev_tr M (ev_up N2 (by decide))
          refine ⟨A, e, tn e p1, o1, z + 1, rfl, ⟨sm_NM M2 hN, hm2, sm_k s' N2 (by decide), h20⟩, fun q2 σ' M' a b => fs_m_seAnd2_31 hG ⟨u0, fun _ => ⟨fw_01, ?_⟩⟩, fun q2 τ3 M3 hm3 s3 R3 => fs_m_seAnd2_31 hG ⟨fun _ => ?_, u1⟩⟩
          · rw [if_pos q2] at hr
            rw [hr] at h0
            exact h0 q2 σ' (ev_tr M2 M') a b
          · rw [if_neg (fun u => u q2)] at hr
            have gr2 := og o1 (tn e p1) h20 q2
            have b59 := s3.2.2
            have Q3 : gq τ τ3 := gq_tr (gq_k N2 (by decide)) R3.1
            exact ⟨_, _, _, _, rfl, ⟨s3.2.2.1, by have := s3.2.2.2; omega⟩, fun v τ4 M4 e59 ev hd => fs_m_seAnd2_47 hG (ih g2 _ _ τ4 v (LA ++ (sl_one A e 2 o1 (tn e p1) ++ [(1, 0)])) (by omega) (by omega) (by omega) gr2.2 (ev_tr (ev_tr M2 M3) (ev_up M4 (by decide))) (mt_M hm3 M4 (by decide) (by decide)) (sm_s s3 M4 e59) (gq_tr (gq_tr Q Q3) (ne_g e59 hd)) (by
              rw [ev]
              exact rp_and (h := (sn_one A e 2 o1 (tn e p1)).2.2.1 - o) ⟨b59.1, by omega⟩ (rp_g Q3 (Nat.le_refl _) R) R3.2 e59 hd (by omega) (by omega)) (fun w => by
              rw [hw w, sl_lps, if_pos c, List.append_assoc, List.append_assoc]) hr)⟩
        · rw [fw_bo_f c]
          exact fs_m_seAnd2_20 hG ⟨fun _ => ⟨fw_11, h1 g1 o1 p1 _ hr c hg1 ho1 h20 (fw_okM_ups M (by decide)) (mt_ups hm' (Or.inr ⟨rfl, by decide⟩)) (sm_k (M := [(93, 62)]) s' okM_one (by decide)) LA hw (sr_top Q (by have := s'.2.2; omega) R)⟩, u0⟩
    exact loop 21 g _ _ σ1 _ _ (by omega) (by omega) gr.1 gr.2 M1 hm1 s1 R1.1 R1.2 (fun _ => rfl) rfl)
theorem fm_m_seOr2 (hinj : nn_inj ad) : fw_H l cy ad wr cr D 342 15 (sp_m_seOr 2) := fw_mk hinj (⟨"NameNotesModel", "readOr", "()Z"⟩, prog_14_method_140_code, 2, (Option.some Jvm.ClassFile.FieldType.boolean), 0, true, 1) rfl rfl nn_KI20_ok nn_KJ20_ok nn_PF20_ok nn_PS20_ok (by decide +kernel) rfl rfl (List.forall_mem_cons.mpr ⟨fw_row nn_PM20_ok (x := 182) (k := 0) (mn := 212) (np := 0) (ob := true) (ci := 11) (⟨"NameNotesModel", "go", "()V"⟩, prog_14_method_17_code, 5, (Option.none : Option Jvm.ClassFile.FieldType), 0, true, 4) rfl (by decide +kernel) rfl rfl (by decide) (fun _ => ⟨_, _, rfl⟩) (fm_m_go hinj), (List.forall_mem_cons.mpr ⟨fw_row nn_PM20_ok (x := 225) (k := 0) (mn := 217) (np := 1) (ob := true) (ci := 11) (⟨"NameNotesModel", "isWord", "(I)Z"⟩, prog_14_method_20_code, 2, (Option.some Jvm.ClassFile.FieldType.boolean), 1, true, 1) rfl (by decide +kernel) rfl rfl (by decide) (fun _ => ⟨_, _, rfl⟩) (fm_m_isWord hinj), (List.forall_mem_cons.mpr ⟨fw_row nn_PM20_ok (x := 492) (k := 0) (mn := 343) (np := 0) (ob := true) (ci := 11) (⟨"NameNotesModel", "readAnd", "()Z"⟩, prog_14_method_141_code, 2, (Option.some Jvm.ClassFile.FieldType.boolean), 0, true, 1) rfl (by decide +kernel) rfl rfl (by decide) (fun _ => ⟨_, _, rfl⟩) (fm_m_seAnd2 hinj), (List.forall_mem_cons.mpr ⟨fw_row nn_PM20_ok (x := 498) (k := 0) (mn := 347) (np := 4) (ob := true) (ci := 11) (⟨"NameNotesModel", "saysOne", "(IIII)I"⟩, prog_14_method_139_code, 6, (Option.some Jvm.ClassFile.FieldType.int), 4, true, 0) rfl (by decide +kernel) rfl rfl (by decide) (fun _ => ⟨_, _, rfl⟩) (fm_m_saysOne hinj), (fun _ h => absurd h List.not_mem_nil)⟩)⟩)⟩)⟩) (fun as σ K h => by
  obtain ⟨A, e, p, o, z, rfl, hp, h0, h1⟩ := h
  have u0 : ∀ {X : Prop}, fw_c 0 ≠ 0 → X := fun z => absurd fw_c0 z
  have u1 : ∀ {X : Prop}, fw_c 1 = 0 → X := fun z => absurd (fw_c1.symm.trans z) (by decide)
  refine ⟨rfl, fun G hG => ?_⟩
  have loop : ∀ (f g1 o1 p1 : Nat) (τ : ab_SG) (a1 : Int) (LO : sl_T), 20 < f + o1 → 21 ≤ g1 + o1 → o + 1 ≤ o1 → o1 ≤ 20 → tw e p1 ≠ 8 → ab_okM sm_M σ τ → mt_is τ e p1 → sm_is τ o1 (8 - 2) (z + 1) → gq σ τ → rp (τ 121) (τ 93 59) (o1 - o) a1 LO → sl_cd (sn_one A e 2) (sl_one A e 2) e o p = LO ++ sl_lp (sn_one A e 2) (sl_one A e 2) e g1 false o1 p1 → sn_cd (sn_one A e 2) e o p = sn_lp (sn_one A e 2) e g1 o1 p1 → G 14 [some (2, 93, 0), some (0, 0, a1)] [] τ := by
    intro f
    induction f with
    | zero =>
      intro g1 o1 p1 τ a1 LO hf _ _ h20 _ _ _ _ _ _ _ _
      omega
    | succ f ih =>
      intro g1 o1 p1 τ a1 LO hf hg1 ho1 h20 c8 M hm' s' Q R hw hr
      obtain ⟨g2, rfl⟩ : ∃ g2, g1 = g2 + 1 := ⟨g1 - 1, by omega⟩
      rw [sn_lps] at hr
      rw [sl_lps, if_neg c8] at hw
      refine fs_m_seOr2_14 hG ⟨7, e, p1, rfl, by decide, hm'.1, ?_⟩
      show G 20 _ [(0, 0, fw_bo (tw e p1 = ((7 : Nat) : Int)))] τ
      by_cases c : tw e p1 = ((7 : Nat) : Int)
      · rw [fw_bo_t c]
        replace c : tw e p1 = 7 := c
        rw [if_pos (Or.inr c)] at hr
        rw [if_pos c] at hw
        refine fs_m_seOr2_20 hG ⟨u1, fun _ => mt_go hm' (fun τ2 N2 hm2 => fs_m_seOr2_27 hG ?_)⟩
        have M2 : ab_okM sm_M σ τ2 := ev_tr M (ev_up N2 (by decide))
        refine ⟨A, e, tn e p1, o1, z + 1, g2, rfl, ⟨sm_NM M2 hp.1, hm2, sm_k s' N2 (by decide), h20⟩, by omega, fun F eF => ⟨fun q σ' M' a b => fs_m_seOr2_31 hG ⟨u0, fun _ => ⟨fw_01, ?_⟩⟩, fun g3 o3 p3 τ3 e3 c3 hg3 ho3 h203 M3 hm3 s3 L3 w3 R3 => fs_m_seOr2_31 hG ⟨fun _ => ?_, u1⟩⟩⟩
        · rw [hr.trans eF.symm] at h0
          exact h0 q σ' (ev_tr M2 M') a b
        · have b59 := s3.2.2
          have Q3 : gq τ τ3 := gq_tr (gq_k N2 (by decide)) R3.1
          exact ⟨_, _, _, _, rfl, ⟨s3.2.2.1, by have := s3.2.2.2; omega⟩, fun v τ4 M4 e59 ev hd => fs_m_seOr2_47 hG (ih g3 o3 p3 τ4 v (LO ++ (L3 ++ [(2, 0)])) (by omega) hg3 (by omega) h203 c3 (ev_tr (ev_tr M2 M3) (ev_up M4 (by decide))) (mt_M hm3 M4 (by decide) (by decide)) (sm_s s3 M4 e59) (gq_tr (gq_tr Q Q3) (ne_g e59 hd)) (by
            rw [ev]
            exact rp_or (h := o3 - o) ⟨b59.1, by omega⟩ (rp_g Q3 (Nat.le_refl _) R) R3.2 e59 hd (by omega) (by omega)) (by
            have w4 := w3 true
            rw [sl_lp_t c3] at w4
            rw [hw, w4, List.append_assoc, List.append_assoc]
            rfl) ((hr.trans eF.symm).trans e3))⟩
      · rw [fw_bo_f c]
        replace c : tw e p1 ≠ 7 := c
        rw [if_neg (fun u => u.elim c8 c)] at hr
        rw [if_neg c] at hw
        rw [hr, hw] at h1
        exact fs_m_seOr2_20 hG ⟨fun _ => ⟨fw_11, h1 rfl _ (fw_okM_ups M (by decide)) (mt_ups hm' (Or.inr ⟨rfl, by decide⟩)) (sm_k (M := [(93, 62)]) s' okM_one (by decide)) (by
          rw [show fl false = [] from rfl, List.append_nil]
          exact sr_top Q (by have := s'.2.2; omega) R)⟩, u0⟩
  refine fs_m_seOr2_0 hG ⟨A, e, p, o, z, 20, rfl, hp, by omega, fun F eF => ⟨fun q σ' M a b => fs_m_seOr2_4 hG ⟨u0, fun _ => ⟨fw_01, ?_⟩⟩, fun g' o' p' σ1 eq c8 hg ho1 ho2 M1 hm1 s1 LA wA RA => fs_m_seOr2_4 hG ⟨fun _ => ?_, u1⟩⟩⟩
  · have ec : sn_cd (sn_one A e 2) e o p = F := eF.symm
    rw [ec] at h0
    exact h0 q σ' M a b
  · have ec : sn_cd (sn_one A e 2) e o p = F := eF.symm
    exact loop 21 g' o' p' σ1 _ LA (by omega) hg ho1 ho2 c8 M1 hm1 s1 RA.1 RA.2 (wA false) (ec.trans eq))
theorem fm_m_seBr2 (hinj : nn_inj ad) : fw_H l cy ad wr cr D 345 16 (sp_m_seBr 2) := fw_mk hinj (⟨"NameNotesModel", "readBracket", "()Z"⟩, prog_14_method_144_code, 1, (Option.some Jvm.ClassFile.FieldType.boolean), 0, true, 1) rfl rfl nn_KI20_ok nn_KJ20_ok nn_PF20_ok nn_PS20_ok (by decide +kernel) rfl rfl (List.forall_mem_cons.mpr ⟨fw_row nn_PM20_ok (x := 168) (k := 0) (mn := 221) (np := 1) (ob := true) (ci := 11) (⟨"NameNotesModel", "bad", "(I)Z"⟩, prog_14_method_23_code, 2, (Option.some Jvm.ClassFile.FieldType.boolean), 1, true, 1) rfl (by decide +kernel) rfl rfl (by decide) (fun _ => ⟨_, _, rfl⟩) (fm_m_bad hinj), (List.forall_mem_cons.mpr ⟨fw_row nn_PM20_ok (x := 182) (k := 0) (mn := 212) (np := 0) (ob := true) (ci := 11) (⟨"NameNotesModel", "go", "()V"⟩, prog_14_method_17_code, 5, (Option.none : Option Jvm.ClassFile.FieldType), 0, true, 4) rfl (by decide +kernel) rfl rfl (by decide) (fun _ => ⟨_, _, rfl⟩) (fm_m_go hinj), (List.forall_mem_cons.mpr ⟨fw_row nn_PM20_ok (x := 185) (k := 0) (mn := 236) (np := 1) (ob := true) (ci := 11) (⟨"NameNotesModel", "isSign", "(I)Z"⟩, prog_14_method_21_code, 2, (Option.some Jvm.ClassFile.FieldType.boolean), 1, true, 1) rfl (by decide +kernel) rfl rfl (by decide) (fun _ => ⟨_, _, rfl⟩) (fm_m_isSign hinj), (List.forall_mem_cons.mpr ⟨fw_row nn_PM20_ok (x := 522) (k := 0) (mn := 342) (np := 0) (ob := true) (ci := 11) (⟨"NameNotesModel", "readOr", "()Z"⟩, prog_14_method_140_code, 2, (Option.some Jvm.ClassFile.FieldType.boolean), 0, true, 1) rfl (by decide +kernel) rfl rfl (by decide) (fun _ => ⟨_, _, rfl⟩) (fm_m_seOr2 hinj), (fun _ h => absurd h List.not_mem_nil)⟩)⟩)⟩)⟩) (fun as σ K h => by
  obtain ⟨A, e, p, o, z, rfl, hp, h0, h1⟩ := h
  have u0 : ∀ {X : Prop}, fw_c 0 ≠ 0 → X := fun z => absurd fw_c0 z
  have u1 : ∀ {X : Prop}, fw_c 1 = 0 → X := fun z => absurd (fw_c1.symm.trans z) (by decide)
  refine ⟨rfl, fun G hG => fs_m_seBr2_0 hG ⟨A, e, p, o, z, rfl, hp, ?_⟩⟩
  generalize sn_cd (sn_one A e 2) e o p = r at h0 h1 ⊢
  refine ⟨fun q σ' M a b => fs_m_seBr2_4 hG ⟨u0, fun _ => ⟨fw_01, ?_⟩⟩, fun q σ1 M1 hm1 s1 R1 => fs_m_seBr2_4 hG ⟨fun _ => ⟨41, e, r.2.2.2, rfl, Or.inr (Or.inr (Or.inr rfl)), hm1.1, ?_⟩, u1⟩⟩
  · rw [show sn_br e r = r from if_pos q] at h0
    exact h0 q σ' M a b
  · show G 15 _ [(0, 0, fw_bo ((tk e r.2.2.2).1 = 41))] σ1
    by_cases c : (tk e r.2.2.2).1 = 41
    · rw [fw_bo_t c]
      have eb : sn_br e r = (0, 0, r.2.2.1, tn e r.2.2.2) := (if_neg (fun u => u q)).trans (if_neg (fun u => u c))
      rw [eb] at h1
      exact fs_m_seBr2_15 hG ⟨fun _ => mt_go hm1 (fun σ2 N2 hm2 => fs_m_seBr2_28 hG ⟨fw_11, h1 rfl σ2 (ev_tr M1 (ev_up N2 (by decide))) hm2 (sm_k s1 N2 (by decide)) (sr_k R1 N2 (by decide))⟩), u1⟩
    · rw [fw_bo_f c]
      have eb : sn_br e r = (1, ev_st e r.2.2.2, r.2.2.1, r.2.2.2) := (if_neg (fun u => u q)).trans (if_pos c)
      rw [eb] at h0
      refine fs_m_seBr2_15 hG ⟨u0, fun _ => mp_bad hm1.1 (by decide) (fun σ' hM h10 h11 => fs_m_seBr2_23 hG ⟨fw_01, h0 (show (1 : Int) ≠ 0 by decide) σ' (ev_tr M1 (ev_up hM (by decide))) ?_ h11⟩)⟩
      rw [h10]
      split <;> rfl)
end
abbrev fk_m_seOne3 : List fw_CR := [(168, 1, true, 11, 0, sp_m_bad), (182, 0, true, 11, 1, sp_m_go), (185, 1, true, 11, 0, sp_m_isSign), (225, 1, true, 11, 2, sp_m_isWord), (261, 0, true, 11, 0, sp_m_tunes), (510, 0, true, 11, 16, sp_m_seBr 2), (513, 0, true, 11, 14, sp_m_seNot 2), (516, 3, true, 11, 3, sp_m_seOf), (519, 1, true, 11, 3, sp_m_seCmp)]
abbrev st_m_seOne3 : fw_K → fw_KR → fw_K := fw_st vwCl nn_sh nn_kd fw_kv fw_wc (nn_KI20.map (fun x => x.1)) (nn_KJ20.map (fun x => x.1)) (nn_PF20.map (fun x => x.1)) (nn_PS20.map (fun x => x.1)) fk_m_seOne3 17 nn_dt344 4 1
theorem fs_m_seOne3_0 {G : fw_K} {R : fw_KR} (hG : fw_cls st_m_seOne3 R G) {σ : ab_SG} (h : sp_m_isSign [(2, 93, 0), (0, 0, 40)] σ (fun rv σ2 => G 6 [some (2, 93, 0), none, none, none] (rv.toList ++ []) σ2)) : G 0 [some (2, 93, 0), none, none, none] [] σ := fw_on hG [6, 10, 21, 30, 45, 46, 64, 69, 94, 104, 118, 141, 164, 181, 184, 193, 194] 200 h
theorem fs_m_seOne3_6 {G : fw_K} {R : fw_KR} (hG : fw_cls st_m_seOne3 R G) {b0 : Int} {o1 o3 : Option ab_AV} {σ : ab_SG} (h : G 10 [some (2, 93, 0), some (0, 0, b0), some (0, 0, 9), o3] [] σ) : G 6 [some (2, 93, 0), o1, none, o3] [(0, 0, b0)] σ := fw_on hG [6, 10, 21, 30, 45, 46, 64, 69, 94, 104, 118, 141, 164, 181, 184, 193, 194] 200 h
theorem fs_m_seOne3_10 {G : fw_K} {R : fw_KR} (hG : fw_cls st_m_seOne3 R G) {a1 a2 : Int} {o3 : Option ab_AV} {σ : ab_SG} (h : (fw_c 16 < fw_c a2 → G 30 [some (2, 93, 0), some (0, 0, a1), some (0, 0, a2), o3] [] σ) ∧ (fw_c a2 ≤ fw_c 16 → sp_m_isWord [(2, 93, 0), (0, 0, a2)] σ (fun rv σ2 => G 21 [some (2, 93, 0), some (0, 0, a1), some (0, 0, a2), o3] (rv.toList ++ []) σ2))) : G 10 [some (2, 93, 0), some (0, 0, a1), some (0, 0, a2), o3] [] σ := fw_on hG [6, 10, 21, 30, 45, 46, 64, 69, 94, 104, 118, 141, 164, 181, 184, 193, 194] 200 h
theorem fs_m_seOne3_30 {G : fw_K} {R : fw_KR} (hG : fw_cls st_m_seOne3 R G) {a1 a2 : Int} {o3 : Option ab_AV} {σ : ab_SG} (h : (fw_c a1 ≠ 0 → G 46 [some (2, 93, 0), some (0, 0, a1), some (0, 0, a2), o3] [] σ) ∧ (fw_c a1 = 0 → (fw_c a2 ≤ fw_c 16 → G 46 [some (2, 93, 0), some (0, 0, a1), some (0, 0, a2), o3] [] σ) ∧ (fw_c 16 < fw_c a2 → sp_m_bad [(2, 93, 0), (0, 0, 1)] σ (fun rv σ2 => G 45 [some (2, 93, 0), some (0, 0, a1), some (0, 0, a2), o3] (rv.toList ++ []) σ2)))) : G 30 [some (2, 93, 0), some (0, 0, a1), some (0, 0, a2), o3] [] σ := fw_on hG [6, 10, 21, 30, 45, 46, 64, 69, 94, 104, 118, 141, 164, 181, 184, 193, 194] 200 h
theorem fs_m_seOne3_21 {G : fw_K} {R : fw_KR} (hG : fw_cls st_m_seOne3 R G) {a1 a2 b0 : Int} {o3 : Option ab_AV} {σ : ab_SG} (h : (fw_c b0 ≠ 0 → G 30 [some (2, 93, 0), some (0, 0, a1), some (0, 0, a2), o3] [] σ) ∧ (fw_c b0 = 0 → G 10 [some (2, 93, 0), some (0, 0, a1), some (0, 0, a2 + 1), o3] [] σ)) : G 21 [some (2, 93, 0), some (0, 0, a1), some (0, 0, a2), o3] [(0, 0, b0)] σ := fw_on hG [6, 10, 21, 30, 45, 46, 64, 69, 94, 104, 118, 141, 164, 181, 184, 193, 194] 200 h
theorem fs_m_seOne3_46 {G : fw_K} {R : fw_KR} (hG : fw_cls st_m_seOne3 R G) {a1 a2 : Int} {o3 : Option ab_AV} {σ : ab_SG} (h : (fw_c (σ 93 60) = fw_c 20 → G 64 [some (2, 93, 0), some (0, 0, a1), some (0, 0, a2), o3] [] σ) ∧ (fw_c (σ 93 60) ≠ fw_c 20 → (fw_c (σ 93 61) ≠ fw_c 8 → sp_m_go [(2, 93, 0)] (ab_ups (ab_ups σ 93 60 (fw_c ((σ 93 60) + 1))) 93 61 (fw_c ((σ 93 61) + 1))) (fun rv σ2 => G 94 [some (2, 93, 0), some (0, 0, a1), some (0, 0, a2), o3] (rv.toList ++ []) σ2)) ∧ (fw_c (σ 93 61) = fw_c 8 → G 64 [some (2, 93, 0), some (0, 0, a1), some (0, 0, a2), o3] [] σ))) : G 46 [some (2, 93, 0), some (0, 0, a1), some (0, 0, a2), o3] [] σ := fw_on hG [6, 10, 21, 30, 45, 46, 64, 69, 94, 104, 118, 141, 164, 181, 184, 193, 194] 200 h
theorem fs_m_seOne3_45 {G : fw_K} {R : fw_KR} (hG : fw_cls st_m_seOne3 R G) {a2 b0 : Int} {o1 o3 : Option ab_AV} {σ : ab_SG} (h : (0 ≤ fw_c b0 ∧ fw_c b0 ≤ 1) ∧ R (some (0, 0, b0)) σ) : G 45 [some (2, 93, 0), o1, some (0, 0, a2), o3] [(0, 0, b0)] σ := fw_on hG [6, 10, 21, 30, 45, 46, 64, 69, 94, 104, 118, 141, 164, 181, 184, 193, 194] 200 h
theorem fs_m_seOne3_64 {G : fw_K} {R : fw_KR} (hG : fw_cls st_m_seOne3 R G) {a2 : Int} {o1 o3 : Option ab_AV} {σ : ab_SG} (h : sp_m_bad [(2, 93, 0), (0, 0, 4)] σ (fun rv σ2 => G 69 [some (2, 93, 0), o1, some (0, 0, a2), o3] (rv.toList ++ []) σ2)) : G 64 [some (2, 93, 0), o1, some (0, 0, a2), o3] [] σ := fw_on hG [6, 10, 21, 30, 45, 46, 64, 69, 94, 104, 118, 141, 164, 181, 184, 193, 194] 200 h
theorem fs_m_seOne3_94 {G : fw_K} {R : fw_KR} (hG : fw_cls st_m_seOne3 R G) {a1 a2 : Int} {o3 : Option ab_AV} {σ : ab_SG} (h : (fw_c a1 = 0 → (fw_c a2 ≠ fw_c 9 → (fw_c a2 ≠ fw_c 10 → (fw_c a2 ≠ fw_c 11 → (fw_c a2 ≠ fw_c 12 → sp_m_seCmp [(2, 93, 0), (0, 0, a2)] σ (fun rv σ2 => G 193 [some (2, 93, 0), some (0, 0, a1), some (0, 0, a2), some (0, 0, 1)] (rv.toList ++ []) σ2)) ∧ (fw_c a2 = fw_c 12 → sp_m_tunes [(2, 93, 0)] σ (fun rv σ2 => G 181 [some (2, 93, 0), some (0, 0, a1), some (0, 0, a2), some (0, 0, 1)] (rv.toList ++ [(0, 0, 0), (0, 0, a2), (2, 93, 0)]) σ2))) ∧ (fw_c a2 = fw_c 11 → (0 ≤ fw_c 2 ∧ fw_c 2 < ((474 : Nat) : Int)) ∧ (sp_m_seOf [(2, 93, 0), (0, 0, a2), (0, 0, 15), (0, 0, σ 95 (fw_c 2).toNat)] σ (fun rv σ2 => G 164 [some (2, 93, 0), some (0, 0, a1), some (0, 0, a2), some (0, 0, 1)] (rv.toList ++ []) σ2)))) ∧ (fw_c a2 = fw_c 10 → (0 ≤ fw_c 1 ∧ fw_c 1 < ((474 : Nat) : Int)) ∧ (sp_m_seOf [(2, 93, 0), (0, 0, a2), (0, 0, 9), (0, 0, σ 95 (fw_c 1).toNat)] σ (fun rv σ2 => G 141 [some (2, 93, 0), some (0, 0, a1), some (0, 0, a2), some (0, 0, 1)] (rv.toList ++ []) σ2)))) ∧ (fw_c a2 = fw_c 9 → sp_m_seNot 2 [(2, 93, 0)] σ (fun rv σ2 => G 118 [some (2, 93, 0), some (0, 0, a1), some (0, 0, a2), some (0, 0, 1)] (rv.toList ++ []) σ2))) ∧ (fw_c a1 ≠ 0 → sp_m_seBr 2 [(2, 93, 0)] σ (fun rv σ2 => G 104 [some (2, 93, 0), some (0, 0, a1), some (0, 0, a2), some (0, 0, 1)] (rv.toList ++ []) σ2))) : G 94 [some (2, 93, 0), some (0, 0, a1), some (0, 0, a2), o3] [] σ := fw_on hG [6, 10, 21, 30, 45, 46, 64, 69, 94, 104, 118, 141, 164, 181, 184, 193, 194] 200 h
theorem fs_m_seOne3_69 {G : fw_K} {R : fw_KR} (hG : fw_cls st_m_seOne3 R G) {a2 b0 : Int} {o1 o3 : Option ab_AV} {σ : ab_SG} (h : (0 ≤ fw_c b0 ∧ fw_c b0 ≤ 1) ∧ R (some (0, 0, b0)) σ) : G 69 [some (2, 93, 0), o1, some (0, 0, a2), o3] [(0, 0, b0)] σ := fw_on hG [6, 10, 21, 30, 45, 46, 64, 69, 94, 104, 118, 141, 164, 181, 184, 193, 194] 200 h
theorem fs_m_seOne3_193 {G : fw_K} {R : fw_KR} (hG : fw_cls st_m_seOne3 R G) {a2 b0 : Int} {o1 o3 : Option ab_AV} {σ : ab_SG} (h : G 194 [some (2, 93, 0), o1, some (0, 0, a2), some (0, 0, b0)] [] σ) : G 193 [some (2, 93, 0), o1, some (0, 0, a2), o3] [(0, 0, b0)] σ := fw_on hG [6, 10, 21, 30, 45, 46, 64, 69, 94, 104, 118, 141, 164, 181, 184, 193, 194] 200 h
theorem fs_m_seOne3_181 {G : fw_K} {R : fw_KR} (hG : fw_cls st_m_seOne3 R G) {a2 b0 b1 b2 : Int} {o1 o3 : Option ab_AV} {σ : ab_SG} (h : sp_m_seOf [(2, 93, 0), (0, 0, b2), (0, 0, b1), (0, 0, b0)] σ (fun rv σ2 => G 184 [some (2, 93, 0), o1, some (0, 0, a2), o3] (rv.toList ++ []) σ2)) : G 181 [some (2, 93, 0), o1, some (0, 0, a2), o3] [(0, 0, b0), (0, 0, b1), (0, 0, b2), (2, 93, 0)] σ := fw_on hG [6, 10, 21, 30, 45, 46, 64, 69, 94, 104, 118, 141, 164, 181, 184, 193, 194] 200 h
theorem fs_m_seOne3_164 {G : fw_K} {R : fw_KR} (hG : fw_cls st_m_seOne3 R G) {a2 b0 : Int} {o1 o3 : Option ab_AV} {σ : ab_SG} (h : G 194 [some (2, 93, 0), o1, some (0, 0, a2), some (0, 0, b0)] [] σ) : G 164 [some (2, 93, 0), o1, some (0, 0, a2), o3] [(0, 0, b0)] σ := fw_on hG [6, 10, 21, 30, 45, 46, 64, 69, 94, 104, 118, 141, 164, 181, 184, 193, 194] 200 h
theorem fs_m_seOne3_141 {G : fw_K} {R : fw_KR} (hG : fw_cls st_m_seOne3 R G) {a2 b0 : Int} {o1 o3 : Option ab_AV} {σ : ab_SG} (h : G 194 [some (2, 93, 0), o1, some (0, 0, a2), some (0, 0, b0)] [] σ) : G 141 [some (2, 93, 0), o1, some (0, 0, a2), o3] [(0, 0, b0)] σ := fw_on hG [6, 10, 21, 30, 45, 46, 64, 69, 94, 104, 118, 141, 164, 181, 184, 193, 194] 200 h
theorem fs_m_seOne3_118 {G : fw_K} {R : fw_KR} (hG : fw_cls st_m_seOne3 R G) {a2 b0 : Int} {o1 o3 : Option ab_AV} {σ : ab_SG} (h : G 194 [some (2, 93, 0), o1, some (0, 0, a2), some (0, 0, b0)] [] σ) : G 118 [some (2, 93, 0), o1, some (0, 0, a2), o3] [(0, 0, b0)] σ := fw_on hG [6, 10, 21, 30, 45, 46, 64, 69, 94, 104, 118, 141, 164, 181, 184, 193, 194] 200 h
theorem fs_m_seOne3_104 {G : fw_K} {R : fw_KR} (hG : fw_cls st_m_seOne3 R G) {a2 b0 : Int} {o1 o3 : Option ab_AV} {σ : ab_SG} (h : G 194 [some (2, 93, 0), o1, some (0, 0, a2), some (0, 0, b0)] [] σ) : G 104 [some (2, 93, 0), o1, some (0, 0, a2), o3] [(0, 0, b0)] σ := fw_on hG [6, 10, 21, 30, 45, 46, 64, 69, 94, 104, 118, 141, 164, 181, 184, 193, 194] 200 h
theorem fs_m_seOne3_194 {G : fw_K} {R : fw_KR} (hG : fw_cls st_m_seOne3 R G) {a2 a3 : Int} {o1 : Option ab_AV} {σ : ab_SG} (h : (0 ≤ fw_c a3 ∧ fw_c a3 ≤ 1) ∧ R (some (0, 0, a3)) (ab_ups σ 93 61 (fw_c ((σ 93 61) - 1)))) : G 194 [some (2, 93, 0), o1, some (0, 0, a2), some (0, 0, a3)] [] σ := fw_on hG [6, 10, 21, 30, 45, 46, 64, 69, 94, 104, 118, 141, 164, 181, 184, 193, 194] 200 h
theorem fs_m_seOne3_184 {G : fw_K} {R : fw_KR} (hG : fw_cls st_m_seOne3 R G) {a2 b0 : Int} {o1 o3 : Option ab_AV} {σ : ab_SG} (h : G 194 [some (2, 93, 0), o1, some (0, 0, a2), some (0, 0, b0)] [] σ) : G 184 [some (2, 93, 0), o1, some (0, 0, a2), o3] [(0, 0, b0)] σ := fw_on hG [6, 10, 21, 30, 45, 46, 64, 69, 94, 104, 118, 141, 164, 181, 184, 193, 194] 200 h
abbrev fk_m_seAnd3 : List fw_CR := [(182, 0, true, 11, 1, sp_m_go), (225, 1, true, 11, 2, sp_m_isWord), (498, 4, true, 11, 0, sp_m_saysOne), (501, 0, true, 11, 17, sp_m_seOne 3)]
abbrev st_m_seAnd3 : fw_K → fw_KR → fw_K := fw_st vwCl nn_sh nn_kd fw_kv fw_wc (nn_KI20.map (fun x => x.1)) (nn_KJ20.map (fun x => x.1)) (nn_PF20.map (fun x => x.1)) (nn_PS20.map (fun x => x.1)) fk_m_seAnd3 18 nn_dt343 2 1
theorem fs_m_seAnd3_0 {G : fw_K} {R : fw_KR} (hG : fw_cls st_m_seAnd3 R G) {σ : ab_SG} (h : sp_m_seOne 3 [(2, 93, 0)] σ (fun rv σ2 => G 4 [some (2, 93, 0), none] (rv.toList ++ []) σ2)) : G 0 [some (2, 93, 0), none] [] σ := fw_on hG [4, 14, 20, 27, 31, 47] 200 h
theorem fs_m_seAnd3_4 {G : fw_K} {R : fw_KR} (hG : fw_cls st_m_seAnd3 R G) {b0 : Int} {o1 : Option ab_AV} {σ : ab_SG} (h : (fw_c b0 ≠ 0 → G 14 [some (2, 93, 0), some (0, 0, σ 93 62)] [] σ) ∧ (fw_c b0 = 0 → (0 ≤ fw_c 0 ∧ fw_c 0 ≤ 1) ∧ R (some (0, 0, 0)) σ)) : G 4 [some (2, 93, 0), o1] [(0, 0, b0)] σ := fw_on hG [4, 14, 20, 27, 31, 47] 200 h
theorem fs_m_seAnd3_14 {G : fw_K} {R : fw_KR} (hG : fw_cls st_m_seAnd3 R G) {a1 : Int} {σ : ab_SG} (h : sp_m_isWord [(2, 93, 0), (0, 0, 8)] σ (fun rv σ2 => G 20 [some (2, 93, 0), some (0, 0, a1)] (rv.toList ++ []) σ2)) : G 14 [some (2, 93, 0), some (0, 0, a1)] [] σ := fw_on hG [4, 14, 20, 27, 31, 47] 200 h
theorem fs_m_seAnd3_20 {G : fw_K} {R : fw_KR} (hG : fw_cls st_m_seAnd3 R G) {a1 b0 : Int} {σ : ab_SG} (h : (fw_c b0 = 0 → (0 ≤ fw_c 1 ∧ fw_c 1 ≤ 1) ∧ R (some (0, 0, 1)) (ab_ups σ 93 62 (fw_c a1))) ∧ (fw_c b0 ≠ 0 → sp_m_go [(2, 93, 0)] σ (fun rv σ2 => G 27 [some (2, 93, 0), some (0, 0, a1)] (rv.toList ++ []) σ2))) : G 20 [some (2, 93, 0), some (0, 0, a1)] [(0, 0, b0)] σ := fw_on hG [4, 14, 20, 27, 31, 47] 200 h
theorem fs_m_seAnd3_27 {G : fw_K} {R : fw_KR} (hG : fw_cls st_m_seAnd3 R G) {a1 : Int} {σ : ab_SG} (h : sp_m_seOne 3 [(2, 93, 0)] σ (fun rv σ2 => G 31 [some (2, 93, 0), some (0, 0, a1)] (rv.toList ++ []) σ2)) : G 27 [some (2, 93, 0), some (0, 0, a1)] [] σ := fw_on hG [4, 14, 20, 27, 31, 47] 200 h
theorem fs_m_seAnd3_31 {G : fw_K} {R : fw_KR} (hG : fw_cls st_m_seAnd3 R G) {a1 b0 : Int} {σ : ab_SG} (h : (fw_c b0 ≠ 0 → sp_m_saysOne [(2, 93, 0), (0, 0, 2), (0, 0, a1), (0, 0, σ 93 62), (0, 0, 0)] σ (fun rv σ2 => G 47 [some (2, 93, 0), some (0, 0, a1)] (rv.toList ++ []) σ2)) ∧ (fw_c b0 = 0 → (0 ≤ fw_c 0 ∧ fw_c 0 ≤ 1) ∧ R (some (0, 0, 0)) σ)) : G 31 [some (2, 93, 0), some (0, 0, a1)] [(0, 0, b0)] σ := fw_on hG [4, 14, 20, 27, 31, 47] 200 h
theorem fs_m_seAnd3_47 {G : fw_K} {R : fw_KR} (hG : fw_cls st_m_seAnd3 R G) {b0 : Int} {o1 : Option ab_AV} {σ : ab_SG} (h : G 14 [some (2, 93, 0), some (0, 0, b0)] [] σ) : G 47 [some (2, 93, 0), o1] [(0, 0, b0)] σ := fw_on hG [4, 14, 20, 27, 31, 47] 200 h
abbrev fk_m_seOr3 : List fw_CR := [(182, 0, true, 11, 1, sp_m_go), (225, 1, true, 11, 2, sp_m_isWord), (492, 0, true, 11, 18, sp_m_seAnd 3), (498, 4, true, 11, 0, sp_m_saysOne)]
abbrev st_m_seOr3 : fw_K → fw_KR → fw_K := fw_st vwCl nn_sh nn_kd fw_kv fw_wc (nn_KI20.map (fun x => x.1)) (nn_KJ20.map (fun x => x.1)) (nn_PF20.map (fun x => x.1)) (nn_PS20.map (fun x => x.1)) fk_m_seOr3 19 nn_dt342 2 1
theorem fs_m_seOr3_0 {G : fw_K} {R : fw_KR} (hG : fw_cls st_m_seOr3 R G) {σ : ab_SG} (h : sp_m_seAnd 3 [(2, 93, 0)] σ (fun rv σ2 => G 4 [some (2, 93, 0), none] (rv.toList ++ []) σ2)) : G 0 [some (2, 93, 0), none] [] σ := fw_on hG [4, 14, 20, 27, 31, 47] 200 h
theorem fs_m_seOr3_4 {G : fw_K} {R : fw_KR} (hG : fw_cls st_m_seOr3 R G) {b0 : Int} {o1 : Option ab_AV} {σ : ab_SG} (h : (fw_c b0 ≠ 0 → G 14 [some (2, 93, 0), some (0, 0, σ 93 62)] [] σ) ∧ (fw_c b0 = 0 → (0 ≤ fw_c 0 ∧ fw_c 0 ≤ 1) ∧ R (some (0, 0, 0)) σ)) : G 4 [some (2, 93, 0), o1] [(0, 0, b0)] σ := fw_on hG [4, 14, 20, 27, 31, 47] 200 h
theorem fs_m_seOr3_14 {G : fw_K} {R : fw_KR} (hG : fw_cls st_m_seOr3 R G) {a1 : Int} {σ : ab_SG} (h : sp_m_isWord [(2, 93, 0), (0, 0, 7)] σ (fun rv σ2 => G 20 [some (2, 93, 0), some (0, 0, a1)] (rv.toList ++ []) σ2)) : G 14 [some (2, 93, 0), some (0, 0, a1)] [] σ := fw_on hG [4, 14, 20, 27, 31, 47] 200 h
theorem fs_m_seOr3_20 {G : fw_K} {R : fw_KR} (hG : fw_cls st_m_seOr3 R G) {a1 b0 : Int} {σ : ab_SG} (h : (fw_c b0 = 0 → (0 ≤ fw_c 1 ∧ fw_c 1 ≤ 1) ∧ R (some (0, 0, 1)) (ab_ups σ 93 62 (fw_c a1))) ∧ (fw_c b0 ≠ 0 → sp_m_go [(2, 93, 0)] σ (fun rv σ2 => G 27 [some (2, 93, 0), some (0, 0, a1)] (rv.toList ++ []) σ2))) : G 20 [some (2, 93, 0), some (0, 0, a1)] [(0, 0, b0)] σ := fw_on hG [4, 14, 20, 27, 31, 47] 200 h
theorem fs_m_seOr3_27 {G : fw_K} {R : fw_KR} (hG : fw_cls st_m_seOr3 R G) {a1 : Int} {σ : ab_SG} (h : sp_m_seAnd 3 [(2, 93, 0)] σ (fun rv σ2 => G 31 [some (2, 93, 0), some (0, 0, a1)] (rv.toList ++ []) σ2)) : G 27 [some (2, 93, 0), some (0, 0, a1)] [] σ := fw_on hG [4, 14, 20, 27, 31, 47] 200 h
theorem fs_m_seOr3_31 {G : fw_K} {R : fw_KR} (hG : fw_cls st_m_seOr3 R G) {a1 b0 : Int} {σ : ab_SG} (h : (fw_c b0 ≠ 0 → sp_m_saysOne [(2, 93, 0), (0, 0, 3), (0, 0, a1), (0, 0, σ 93 62), (0, 0, 0)] σ (fun rv σ2 => G 47 [some (2, 93, 0), some (0, 0, a1)] (rv.toList ++ []) σ2)) ∧ (fw_c b0 = 0 → (0 ≤ fw_c 0 ∧ fw_c 0 ≤ 1) ∧ R (some (0, 0, 0)) σ)) : G 31 [some (2, 93, 0), some (0, 0, a1)] [(0, 0, b0)] σ := fw_on hG [4, 14, 20, 27, 31, 47] 200 h
theorem fs_m_seOr3_47 {G : fw_K} {R : fw_KR} (hG : fw_cls st_m_seOr3 R G) {b0 : Int} {o1 : Option ab_AV} {σ : ab_SG} (h : G 14 [some (2, 93, 0), some (0, 0, b0)] [] σ) : G 47 [some (2, 93, 0), o1] [(0, 0, b0)] σ := fw_on hG [4, 14, 20, 27, 31, 47] 200 h
abbrev fk_m_seBr3 : List fw_CR := [(168, 1, true, 11, 0, sp_m_bad), (182, 0, true, 11, 1, sp_m_go), (185, 1, true, 11, 0, sp_m_isSign), (522, 0, true, 11, 19, sp_m_seOr 3)]
abbrev st_m_seBr3 : fw_K → fw_KR → fw_K := fw_st vwCl nn_sh nn_kd fw_kv fw_wc (nn_KI20.map (fun x => x.1)) (nn_KJ20.map (fun x => x.1)) (nn_PF20.map (fun x => x.1)) (nn_PS20.map (fun x => x.1)) fk_m_seBr3 20 nn_dt345 1 1
theorem fs_m_seBr3_0 {G : fw_K} {R : fw_KR} (hG : fw_cls st_m_seBr3 R G) {σ : ab_SG} (h : sp_m_seOr 3 [(2, 93, 0)] σ (fun rv σ2 => G 4 [some (2, 93, 0)] (rv.toList ++ []) σ2)) : G 0 [some (2, 93, 0)] [] σ := fw_on hG [4, 15, 23, 28] 200 h
theorem fs_m_seBr3_4 {G : fw_K} {R : fw_KR} (hG : fw_cls st_m_seBr3 R G) {b0 : Int} {σ : ab_SG} (h : (fw_c b0 ≠ 0 → sp_m_isSign [(2, 93, 0), (0, 0, 41)] σ (fun rv σ2 => G 15 [some (2, 93, 0)] (rv.toList ++ []) σ2)) ∧ (fw_c b0 = 0 → (0 ≤ fw_c 0 ∧ fw_c 0 ≤ 1) ∧ R (some (0, 0, 0)) σ)) : G 4 [some (2, 93, 0)] [(0, 0, b0)] σ := fw_on hG [4, 15, 23, 28] 200 h
theorem fs_m_seBr3_15 {G : fw_K} {R : fw_KR} (hG : fw_cls st_m_seBr3 R G) {b0 : Int} {σ : ab_SG} (h : (fw_c b0 ≠ 0 → sp_m_go [(2, 93, 0)] σ (fun rv σ2 => G 28 [some (2, 93, 0)] (rv.toList ++ []) σ2)) ∧ (fw_c b0 = 0 → sp_m_bad [(2, 93, 0), (0, 0, 1)] σ (fun rv σ2 => G 23 [some (2, 93, 0)] (rv.toList ++ []) σ2))) : G 15 [some (2, 93, 0)] [(0, 0, b0)] σ := fw_on hG [4, 15, 23, 28] 200 h
theorem fs_m_seBr3_28 {G : fw_K} {R : fw_KR} (hG : fw_cls st_m_seBr3 R G) {σ : ab_SG} (h : (0 ≤ fw_c 1 ∧ fw_c 1 ≤ 1) ∧ R (some (0, 0, 1)) σ) : G 28 [some (2, 93, 0)] [] σ := fw_on hG [4, 15, 23, 28] 200 h
theorem fs_m_seBr3_23 {G : fw_K} {R : fw_KR} (hG : fw_cls st_m_seBr3 R G) {b0 : Int} {σ : ab_SG} (h : (0 ≤ fw_c b0 ∧ fw_c b0 ≤ 1) ∧ R (some (0, 0, b0)) σ) : G 23 [some (2, 93, 0)] [(0, 0, b0)] σ := fw_on hG [4, 15, 23, 28] 200 h
abbrev fk_m_seNot3 : List fw_CR := [(498, 4, true, 11, 0, sp_m_saysOne), (501, 0, true, 11, 17, sp_m_seOne 3)]
abbrev st_m_seNot3 : fw_K → fw_KR → fw_K := fw_st vwCl nn_sh nn_kd fw_kv fw_wc (nn_KI20.map (fun x => x.1)) (nn_KJ20.map (fun x => x.1)) (nn_PF20.map (fun x => x.1)) (nn_PS20.map (fun x => x.1)) fk_m_seNot3 18 nn_dt346 1 1
theorem fs_m_seNot3_0 {G : fw_K} {R : fw_KR} (hG : fw_cls st_m_seNot3 R G) {σ : ab_SG} (h : sp_m_seOne 3 [(2, 93, 0)] σ (fun rv σ2 => G 4 [some (2, 93, 0)] (rv.toList ++ []) σ2)) : G 0 [some (2, 93, 0)] [] σ := fw_on hG [4, 21] 200 h
theorem fs_m_seNot3_4 {G : fw_K} {R : fw_KR} (hG : fw_cls st_m_seNot3 R G) {b0 : Int} {σ : ab_SG} (h : (fw_c b0 ≠ 0 → sp_m_saysOne [(2, 93, 0), (0, 0, 1), (0, 0, σ 93 62), (0, 0, 0), (0, 0, 0)] σ (fun rv σ2 => G 21 [some (2, 93, 0)] (rv.toList ++ [(2, 93, 0)]) σ2)) ∧ (fw_c b0 = 0 → (0 ≤ fw_c 0 ∧ fw_c 0 ≤ 1) ∧ R (some (0, 0, 0)) σ)) : G 4 [some (2, 93, 0)] [(0, 0, b0)] σ := fw_on hG [4, 21] 200 h
theorem fs_m_seNot3_21 {G : fw_K} {R : fw_KR} (hG : fw_cls st_m_seNot3 R G) {b0 : Int} {σ : ab_SG} (h : (0 ≤ fw_c 1 ∧ fw_c 1 ≤ 1) ∧ R (some (0, 0, 1)) (ab_ups σ 93 62 (fw_c b0))) : G 21 [some (2, 93, 0)] [(0, 0, b0), (2, 93, 0)] σ := fw_on hG [4, 21] 200 h
section
variable {l : Launch} {cy : Nat → ClassId} {ad wr cr : Nat → Nat} {D : va_G}
theorem fm_m_seOne3 (hinj : nn_inj ad) : fw_H l cy ad wr cr D 344 17 (sp_m_seOne 3) := fw_mk hinj (⟨"NameNotesModel", "readOne", "()Z"⟩, prog_14_method_142_code, 4, (Option.some Jvm.ClassFile.FieldType.boolean), 0, true, 1) rfl rfl nn_KI20_ok nn_KJ20_ok nn_PF20_ok nn_PS20_ok (by decide +kernel) rfl rfl (List.forall_mem_cons.mpr ⟨fw_row nn_PM20_ok (x := 168) (k := 0) (mn := 221) (np := 1) (ob := true) (ci := 11) (⟨"NameNotesModel", "bad", "(I)Z"⟩, prog_14_method_23_code, 2, (Option.some Jvm.ClassFile.FieldType.boolean), 1, true, 1) rfl (by decide +kernel) rfl rfl (by decide) (fun _ => ⟨_, _, rfl⟩) (fm_m_bad hinj), (List.forall_mem_cons.mpr ⟨fw_row nn_PM20_ok (x := 182) (k := 0) (mn := 212) (np := 0) (ob := true) (ci := 11) (⟨"NameNotesModel", "go", "()V"⟩, prog_14_method_17_code, 5, (Option.none : Option Jvm.ClassFile.FieldType), 0, true, 4) rfl (by decide +kernel) rfl rfl (by decide) (fun _ => ⟨_, _, rfl⟩) (fm_m_go hinj), (List.forall_mem_cons.mpr ⟨fw_row nn_PM20_ok (x := 185) (k := 0) (mn := 236) (np := 1) (ob := true) (ci := 11) (⟨"NameNotesModel", "isSign", "(I)Z"⟩, prog_14_method_21_code, 2, (Option.some Jvm.ClassFile.FieldType.boolean), 1, true, 1) rfl (by decide +kernel) rfl rfl (by decide) (fun _ => ⟨_, _, rfl⟩) (fm_m_isSign hinj), (List.forall_mem_cons.mpr ⟨fw_row nn_PM20_ok (x := 225) (k := 0) (mn := 217) (np := 1) (ob := true) (ci := 11) (⟨"NameNotesModel", "isWord", "(I)Z"⟩, prog_14_method_20_code, 2, (Option.some Jvm.ClassFile.FieldType.boolean), 1, true, 1) rfl (by decide +kernel) rfl rfl (by decide) (fun _ => ⟨_, _, rfl⟩) (fm_m_isWord hinj), (List.forall_mem_cons.mpr ⟨fw_row nn_PM20_ok (x := 261) (k := 0) (mn := 240) (np := 0) (ob := true) (ci := 11) (⟨"NameNotesModel", "tunes", "()I"⟩, prog_14_method_41_code, 1, (Option.some Jvm.ClassFile.FieldType.int), 0, true, 0) rfl (by decide +kernel) rfl rfl (by decide) (fun _ => ⟨_, _, rfl⟩) (fm_m_tunes hinj), (List.forall_mem_cons.mpr ⟨fw_row nn_PM20_ok (x := 510) (k := 0) (mn := 345) (np := 0) (ob := true) (ci := 11) (⟨"NameNotesModel", "readBracket", "()Z"⟩, prog_14_method_144_code, 1, (Option.some Jvm.ClassFile.FieldType.boolean), 0, true, 1) rfl (by decide +kernel) rfl rfl (by decide) (fun _ => ⟨_, _, rfl⟩) (fm_m_seBr2 hinj), (List.forall_mem_cons.mpr ⟨fw_row nn_PM20_ok (x := 513) (k := 0) (mn := 346) (np := 0) (ob := true) (ci := 11) (⟨"NameNotesModel", "readNot", "()Z"⟩, prog_14_method_143_code, 1, (Option.some Jvm.ClassFile.FieldType.boolean), 0, true, 1) rfl (by decide +kernel) rfl rfl (by decide) (fun _ => ⟨_, _, rfl⟩) (fm_m_seNot2 hinj), (List.forall_mem_cons.mpr ⟨fw_row nn_PM20_ok (x := 516) (k := 0) (mn := 348) (np := 3) (ob := true) (ci := 11) (⟨"NameNotesModel", "readOf", "(III)Z"⟩, prog_14_method_145_code, 5, (Option.some Jvm.ClassFile.FieldType.boolean), 3, true, 1) rfl (by decide +kernel) rfl rfl (by decide) (fun _ => ⟨_, _, rfl⟩) (fm_m_seOf hinj), (List.forall_mem_cons.mpr ⟨fw_row nn_PM20_ok (x := 519) (k := 0) (mn := 349) (np := 1) (ob := true) (ci := 11) (⟨"NameNotesModel", "readCompare", "(I)Z"⟩, prog_14_method_146_code, 3, (Option.some Jvm.ClassFile.FieldType.boolean), 1, true, 1) rfl (by decide +kernel) rfl rfl (by decide) (fun _ => ⟨_, _, rfl⟩) (fm_m_seCmp hinj), (fun _ h => absurd h List.not_mem_nil)⟩)⟩)⟩)⟩)⟩)⟩)⟩)⟩)⟩) (fun as σ K h => by
  obtain ⟨A, e, p, o, z, rfl, ⟨hN, hm, hs, ho⟩, h0, h1⟩ := h
  have c16 : fw_c 16 = 16 := fw_s (by decide) (by decide)
  have c20 : fw_c 20 = 20 := fw_s (by decide) (by decide)
  have c8 : fw_c 8 = 8 := fw_s (by decide) (by decide)
  have c60 : fw_c (σ 93 60) = (o : Int) := by rw [hs.1]; exact fw_s (by omega) (by omega)
  have c61 : fw_c (σ 93 61) = ((8 - 3 : Nat) : Int) := by rw [hs.2.1]; exact fw_s (by decide) (by decide)
  have u0 : ∀ {X : Prop}, fw_c 0 ≠ 0 → X := fun z => absurd fw_c0 z
  have u1 : ∀ {X : Prop}, fw_c 1 = 0 → X := fun z => absurd (fw_c1.symm.trans z) (by decide)
  have n40 : (tk e p).1 = 40 → ¬ (9 ≤ tw e p ∧ tw e p ≤ 16) := fun z y => by
    have := tw_k (e := e) (p := p) (by omega)
    omega
  refine ⟨rfl, fun G hG => ?_⟩
  -- too many, too deep
  have g64 : sn_st e p → sn_one A e 3 o p = (4, ev_st e p, o, p) → ∀ (o1 o3 : Option ab_AV) (w : Int), G 64 [some (2, 93, 0), o1, some (0, 0, w), o3] [] σ := fun y en o1 o3 w => by
    rw [en] at h0
    refine fs_m_seOne3_64 hG (mp_bad hm.1 (by decide) (fun σ' hM h10 h11 => fs_m_seOne3_69 hG ⟨fw_01, h0 (show (4 : Int) ≠ 0 by decide) σ' (ev_up hM (by decide)) ?_ h11⟩))
    have k : ¬ σ 93 7 = 1 := fun q => by
      have g := (mg_kind hm.1).2.2.1.mp q
      rcases y with y | y
      · omega
      · have := tw_k (e := e) (p := p) (by omega)
        omega
    rw [h10, if_neg k]
  have g46 : ∀ (b w : Int) (o3 : Option ab_AV), sn_st e p → ((b = 1 ∧ (tk e p).1 = 40) ∨ (b = 0 ∧ (tk e p).1 ≠ 40 ∧ w = tw e p)) → (0 ≤ w ∧ w ≤ 17) → G 46 [some (2, 93, 0), some (0, 0, b), some (0, 0, w), o3] [] σ := by
    intro b w o3 y hb hw
    refine fs_m_seOne3_46 hG ?_
    rw [c60, c61, c20, c8]
    refine ⟨fun q => g64 y ?_ _ o3 w, fun q => ⟨fun _ => ?_, fun q2 => absurd q2 (by decide)⟩⟩
    · rw [show sn_one A e 3 o p = _ from sn_one_s A e 2 o p, if_neg (fun u => u y), if_pos (by omega)]
    have en : sn_one A e 3 o p = _ := sn_one_s A e 2 o p
    rw [if_neg (fun u => u y), if_neg (by omega)] at en
    have ln : sl_one A e 3 o p = _ := sl_one_s A e 2 o p
    have co : fw_c (σ 93 60 + 1) = ((o + 1 : Nat) : Int) := by rw [hs.1]; exact fw_s (x := (o : Int) + 1) (by omega) (by omega)
    have cd : fw_c (σ 93 61 + 1) = ((8 - 2 : Nat) : Int) := by rw [hs.2.1]; exact fw_s (x := ((8 - 3 : Nat) : Int) + 1) (by decide) (by decide)
    rw [co, cd]
    have hm1 : mt_is (ab_ups (ab_ups σ 93 60 ((o + 1 : Nat) : Int)) 93 61 ((8 - 2 : Nat) : Int)) e p := mt_ups (mt_ups hm (Or.inr ⟨rfl, by decide⟩)) (Or.inr ⟨rfl, by decide⟩)
    have s1 : sm_is (ab_ups (ab_ups σ 93 60 ((o + 1 : Nat) : Int)) 93 61 ((8 - 2 : Nat) : Int)) (o + 1) (8 - 2) (z + 2) := ⟨(ab_ups_ne (by decide)).trans ab_ups_eq, ab_ups_eq, by rw [ab_ups_ne (by decide), ab_ups_ne (by decide)]; have := hs.2.2; omega⟩
    have M1 : ab_okM sm_M σ (ab_ups (ab_ups σ 93 60 ((o + 1 : Nat) : Int)) 93 61 ((8 - 2 : Nat) : Int)) := fw_okM_ups (fw_okM_ups (fw_okM_refl _ _) (by decide)) (by decide)
    have Q1 : gq σ (ab_ups (ab_ups σ 93 60 ((o + 1 : Nat) : Int)) 93 61 ((8 - 2 : Nat) : Int)) := gq_tr (gq_k (M := [(93, 60)]) okM_one (by decide)) (gq_k (M := [(93, 61)]) okM_one (by decide))
    generalize ab_ups (ab_ups σ 93 60 ((o + 1 : Nat) : Int)) 93 61 ((8 - 2 : Nat) : Int) = σ1 at hm1 s1 M1 Q1 ⊢
    refine mt_go hm1 (fun σ2 N2 hm2 => fs_m_seOne3_94 hG ?_)
    have q2 : gq σ σ2 := gq_tr Q1 (gq_k N2 (by decide))
    have M2 : ab_okM sm_M σ σ2 := ev_tr M1 (ev_up N2 (by decide))
    have s2 : sm_is σ2 (o + 1) (8 - 2) (z + 2) := sm_k s1 N2 (by decide)
    have N2' : NM σ2 A := sm_NM M2 hN
    have no : ∀ r : sn_T, sn_one A e 3 o p = r → r.1 ≠ 0 → ∀ σ' : ab_SG, ab_okM sm_M σ2 σ' → σ' 93 10 = r.1 → σ' 93 11 = r.2.1 → ∀ o1 : Option ab_AV, G 194 [some (2, 93, 0), o1, some (0, 0, w), some (0, 0, 0)] [] σ' := fun r er q σ' M a b o1 => by
      rw [er] at h0
      exact fs_m_seOne3_194 hG ⟨fw_01, h0 q _ (fw_okM_ups (ev_tr M2 M) (by decide)) ((ab_ups_ne (by decide)).trans a) ((ab_ups_ne (by decide)).trans b)⟩
    have ok : ∀ (r : sn_T) (L : sl_T), sn_one A e 3 o p = r → sl_one A e 3 o p = L → r.1 = 0 → ∀ (σ' : ab_SG) (zz h9 : Nat), z + 1 ≤ zz → h9 ≤ r.2.2.1 - o → ab_okM sm_M σ2 σ' → mt_is σ' e r.2.2.2 → sm_is σ' r.2.2.1 (8 - 2) zz → sr σ2 σ' h9 L → ∀ o1 : Option ab_AV, G 194 [some (2, 93, 0), o1, some (0, 0, w), some (0, 0, 1)] [] σ' := fun r L er el q σ' zz h9 hz hh M hm' s' R o1 => by
      rw [er, el] at h1
      have cv : fw_c (σ' 93 61 - 1) = ((8 - 3 : Nat) : Int) := by rw [s'.2.1]; exact fw_s (x := ((8 - 2 : Nat) : Int) - 1) (by decide) (by decide)
      refine fs_m_seOne3_194 hG ⟨fw_11, ?_⟩
      rw [cv]
      exact h1 q _ (fw_okM_ups (ev_tr M2 M) (by decide)) (mt_ups hm' (Or.inr ⟨rfl, by decide⟩)) ⟨(ab_ups_ne (by decide)).trans s'.1, ab_ups_eq, by rw [ab_ups_ne (by decide)]; have := s'.2.2; omega⟩ (sr_k (M := [(93, 61)]) (sr_l q2 hh R) okM_one (by decide))
    have cw : fw_c w = w := fw_s (by omega) (by omega)
    have c9 : fw_c 9 = 9 := fw_s (by decide) (by decide)
    have c10 : fw_c 10 = 10 := fw_s (by decide) (by decide)
    have c11 : fw_c 11 = 11 := fw_s (by decide) (by decide)
    have c12 : fw_c 12 = 12 := fw_s (by decide) (by decide)
    have c2 : fw_c 2 = 2 := fw_s (by decide) (by decide)
    have t1 : (fw_c 1).toNat = 1 := by rw [fw_c1]; rfl
    have t2 : (fw_c 2).toNat = 2 := by rw [c2]; rfl
    have nn := hN.1
    rw [cw, c9, c10, c11, c12, t1, t2, c2, fw_c1]
    refine ⟨fun q5 => ?_, fun q5 => ?_⟩
    · obtain ⟨n4, ew⟩ : (tk e p).1 ≠ 40 ∧ w = tw e p := by
        rcases hb with ⟨b1, -⟩ | ⟨-, k⟩
        · rw [b1] at q5
          exact u1 q5
        · exact k
      rw [if_neg n4] at en ln
      refine ⟨fun w9 => ⟨fun w10 => ⟨fun w11 => ⟨fun w12 => ?_, fun w12 => ⟨rfl, fs_m_seOne3_181 hG ?_⟩⟩, fun w11 => ⟨by decide, ?_⟩⟩, fun w10 => ⟨by decide, ?_⟩⟩, fun w9 => ?_⟩
      · rw [if_neg (by omega), if_neg (by omega), if_neg (by omega), if_neg (by omega)] at en ln
        have wk : 13 ≤ tw e p ∧ tw e p ≤ 16 := by
          have y2 := y.resolve_left n4
          omega
        rw [sk_13 wk, ← ew] at ln
        rw [← ew] at wk
        exact ⟨e, tn e p, o + 1, 8 - 2, z + 1, _, rfl, hm2, ⟨s2, by omega⟩, wk, fun q σ' M a b => fs_m_seOne3_193 hG (no _ en q σ' M a b _), fun q σ' M a b c => fs_m_seOne3_193 hG (ok _ _ en ln q σ' (z + 1) 1 (Nat.le_refl _) (by rw [sn_ms_0 q]; show 1 ≤ o + 1 - o; omega) M a b c _)⟩
      · rw [if_neg (by omega), if_neg (by omega), if_neg (by omega), if_pos (by omega), show (5 : Int) = w - 7 by omega] at ln
        rw [if_neg (by omega), if_neg (by omega), if_neg (by omega), if_pos (by omega)] at en
        rw [(NM_n N2').1]
        exact ⟨A, e, tn e p, o + 1, 8 - 2, z + 1, 0, 57, _, _, rfl, hm2, ⟨s2, by omega⟩, rm_11 N2', ⟨nn.1.1, by omega, by omega⟩, ⟨by omega, by omega⟩, fun q σ' M a b => fs_m_seOne3_184 hG (no _ en q σ' M a b _), fun q σ' M a b c => fs_m_seOne3_184 hG (ok _ _ en ln q σ' (z + 1) 1 (Nat.le_refl _) (by rw [(sn_nm_0 q).2]; show 1 ≤ o + 1 - o; omega) M a b c _)⟩
      · rw [if_neg (by omega), if_neg (by omega), if_pos (by omega), show (4 : Int) = w - 7 by omega] at ln
        rw [if_neg (by omega), if_neg (by omega), if_pos (by omega)] at en
        rw [(NM_n N2').2.2]
        exact ⟨A, e, tn e p, o + 1, 8 - 2, z + 1, 15, 59, _, _, rfl, hm2, ⟨s2, by omega⟩, rm_13 N2', ⟨nn.2.2.1.1, by omega, by omega⟩, ⟨by omega, by omega⟩, fun q σ' M a b => fs_m_seOne3_164 hG (no _ en q σ' M a b _), fun q σ' M a b c => fs_m_seOne3_164 hG (ok _ _ en ln q σ' (z + 1) 1 (Nat.le_refl _) (by rw [(sn_nm_0 q).2]; show 1 ≤ o + 1 - o; omega) M a b c _)⟩
      · rw [if_neg (by omega), if_pos (by omega), show (3 : Int) = w - 7 by omega] at ln
        rw [if_neg (by omega), if_pos (by omega)] at en
        rw [(NM_n N2').2.1]
        exact ⟨A, e, tn e p, o + 1, 8 - 2, z + 1, 9, 58, _, _, rfl, hm2, ⟨s2, by omega⟩, rm_12 N2', ⟨nn.2.1.1, by omega, by omega⟩, ⟨by omega, by omega⟩, fun q σ' M a b => fs_m_seOne3_141 hG (no _ en q σ' M a b _), fun q σ' M a b c => fs_m_seOne3_141 hG (ok _ _ en ln q σ' (z + 1) 1 (Nat.le_refl _) (by rw [(sn_nm_0 q).2]; show 1 ≤ o + 1 - o; omega) M a b c _)⟩
      · rw [if_pos (by omega)] at en ln
        exact ⟨A, e, tn e p, o + 1, z + 2, rfl, ⟨N2', hm2, s2, by omega⟩, fun q σ' M a b => fs_m_seOne3_118 hG (no _ en q σ' M a b _), fun q σ' M a b c => fs_m_seOne3_118 hG (ok _ _ en ln q σ' (z + 2) _ (by omega) (by have g := (sn_one_gr A e 2 (o + 1) (tn e p) (by omega) q).1; omega) M a b c _)⟩
    · have n4 : (tk e p).1 = 40 := by
        rcases hb with ⟨-, k⟩ | ⟨b0, -⟩
        · exact k
        · rw [b0] at q5
          exact u0 q5
      rw [if_pos n4] at en ln
      exact ⟨A, e, tn e p, o + 1, z + 2, rfl, ⟨N2', hm2, s2, by omega⟩, fun q σ' M a b => fs_m_seOne3_104 hG (no _ en q σ' M a b _), fun q σ' M a b c => fs_m_seOne3_104 hG (ok _ _ en ln q σ' (z + 3) _ (by omega) (by omega) M a b c _)⟩
  have g30 : ∀ (b w : Int) (o3 : Option ab_AV), ((b = 1 ∧ (tk e p).1 = 40) ∨ (b = 0 ∧ (tk e p).1 ≠ 40)) → ((w = tw e p ∧ 9 ≤ w ∧ w ≤ 16) ∨ (w = 17 ∧ ¬ (9 ≤ tw e p ∧ tw e p ≤ 16))) → G 30 [some (2, 93, 0), some (0, 0, b), some (0, 0, w), o3] [] σ := by
    intro b w o3 hb hw
    have cw : fw_c w = w := fw_s (by omega) (by omega)
    refine fs_m_seOne3_30 hG ?_
    rw [cw, c16]
    refine ⟨fun q => ?_, fun q => ⟨fun q2 => ?_, fun q2 => ?_⟩⟩
    · rcases hb with ⟨b1, k⟩ | ⟨b0, -⟩
      · exact g46 b w o3 (Or.inl k) (Or.inl ⟨b1, k⟩) ⟨by omega, by omega⟩
      · rw [b0] at q
        exact u0 q
    · rcases hb with ⟨b1, -⟩ | ⟨b0, k⟩
      · rw [b1] at q
        exact u1 q
      · exact g46 b w o3 (Or.inr ⟨by omega, by omega⟩) (Or.inr ⟨b0, k, by omega⟩) ⟨by omega, by omega⟩
    · rcases hb with ⟨b1, -⟩ | ⟨b0, k⟩
      · rw [b1] at q
        exact u1 q
      · have ns : ¬ sn_st e p := fun y => by
          rcases y with y | y
          · exact k y
          · omega
        have en : sn_one A e 3 o p = (1, ev_st e p, o, p) := (sn_one_s A e 2 o p).trans (if_pos ns)
        rw [en] at h0
        refine mp_bad hm.1 (by decide) (fun σ' hM h10 h11 => fs_m_seOne3_45 hG ⟨fw_01, h0 (show (1 : Int) ≠ 0 by decide) σ' (ev_up hM (by decide)) ?_ h11⟩)
        rw [h10]
        split <;> rfl
  have lw : ∀ (f w : Nat) (b : Int) (o3 : Option ab_AV), w + f = 17 → 9 ≤ w → (∀ v : Nat, 9 ≤ v → v < w → tw e p ≠ (v : Int)) → ((b = 1 ∧ (tk e p).1 = 40) ∨ (b = 0 ∧ (tk e p).1 ≠ 40)) → G 10 [some (2, 93, 0), some (0, 0, b), some (0, 0, (w : Int)), o3] [] σ := by
    intro f
    induction f with
    | zero =>
      intro w b o3 hf h9 hv hb
      have ew : w = 17 := by omega
      subst ew
      refine fs_m_seOne3_10 hG ⟨fun _ => g30 b _ o3 hb (Or.inr ⟨rfl, fun y => ?_⟩), fun q => absurd q (by rw [c16]; decide)⟩
      have := hv (tw e p).toNat (by omega) (by omega)
      omega
    | succ f ih =>
      intro w b o3 hf h9 hv hb
      have cw : fw_c (w : Int) = (w : Int) := fw_s (by omega) (by omega)
      refine fs_m_seOne3_10 hG ⟨fun q => absurd q (by rw [c16, cw]; omega), fun _ => ⟨w, e, p, rfl, by omega, hm.1, ?_⟩⟩
      by_cases c : tw e p = (w : Int)
      · rw [fw_bo_t c]
        exact fs_m_seOne3_21 hG ⟨fun _ => g30 b _ o3 hb (Or.inl ⟨c.symm, by omega, by omega⟩), u1⟩
      · rw [fw_bo_f c]
        refine fs_m_seOne3_21 hG ⟨u0, fun _ => ?_⟩
        have g := ih (w + 1) b o3 (by omega) (by omega) (fun v h1 h2 => by
          by_cases y : v = w
          · rw [y]
            exact c
          · exact hv v h1 (by omega)) hb
        rw [show ((w + 1 : Nat) : Int) = (w : Int) + 1 from rfl] at g
        exact g
  refine fs_m_seOne3_0 hG ⟨40, e, p, rfl, Or.inr (Or.inr (Or.inl rfl)), hm.1, ?_⟩
  by_cases c : (tk e p).1 = 40
  · rw [fw_bo_t c]
    exact fs_m_seOne3_6 hG (lw 8 9 1 _ rfl (by decide) (fun v h1 h2 => by omega) (Or.inl ⟨rfl, c⟩))
  · rw [fw_bo_f c]
    exact fs_m_seOne3_6 hG (lw 8 9 0 _ rfl (by decide) (fun v h1 h2 => by omega) (Or.inr ⟨rfl, c⟩)))
theorem fm_m_seNot3 (hinj : nn_inj ad) : fw_H l cy ad wr cr D 346 18 (sp_m_seNot 3) := fw_mk hinj (⟨"NameNotesModel", "readNot", "()Z"⟩, prog_14_method_143_code, 1, (Option.some Jvm.ClassFile.FieldType.boolean), 0, true, 1) rfl rfl nn_KI20_ok nn_KJ20_ok nn_PF20_ok nn_PS20_ok (by decide +kernel) rfl rfl (List.forall_mem_cons.mpr ⟨fw_row nn_PM20_ok (x := 498) (k := 0) (mn := 347) (np := 4) (ob := true) (ci := 11) (⟨"NameNotesModel", "saysOne", "(IIII)I"⟩, prog_14_method_139_code, 6, (Option.some Jvm.ClassFile.FieldType.int), 4, true, 0) rfl (by decide +kernel) rfl rfl (by decide) (fun _ => ⟨_, _, rfl⟩) (fm_m_saysOne hinj), (List.forall_mem_cons.mpr ⟨fw_row nn_PM20_ok (x := 501) (k := 0) (mn := 344) (np := 0) (ob := true) (ci := 11) (⟨"NameNotesModel", "readOne", "()Z"⟩, prog_14_method_142_code, 4, (Option.some Jvm.ClassFile.FieldType.boolean), 0, true, 1) rfl (by decide +kernel) rfl rfl (by decide) (fun _ => ⟨_, _, rfl⟩) (fm_m_seOne3 hinj), (fun _ h => absurd h List.not_mem_nil)⟩)⟩) (fun as σ K h => by
  obtain ⟨A, e, p, o, z, rfl, hp, h0, h1⟩ := h
  have u0 : ∀ {X : Prop}, fw_c 0 ≠ 0 → X := fun z => absurd fw_c0 z
  have u1 : ∀ {X : Prop}, fw_c 1 = 0 → X := fun z => absurd (fw_c1.symm.trans z) (by decide)
  refine ⟨rfl, fun G hG => fs_m_seNot3_0 hG ⟨A, e, p, o, z, rfl, hp, fun q σ' M a b => fs_m_seNot3_4 hG ⟨u0, fun _ => ⟨fw_01, h0 q σ' M a b⟩⟩, fun q σ1 M1 hm1 s1 R1 => fs_m_seNot3_4 hG ⟨fun _ => ⟨_, _, _, _, rfl, ⟨s1.2.2.1, ?_⟩, fun v σ2 M2 e59 ev hd => fs_m_seNot3_21 hG ⟨fw_11, ?_⟩⟩, u1⟩⟩⟩
  · have gr := (sn_one_gr A e 3 o p hp.2.2.2 q).2
    have := s1.2.2.2
    omega
  · exact h1 q _ (fw_okM_ups (ev_tr M1 (ev_up M2 (by decide))) (by decide)) (mt_ups (mt_M hm1 M2 (by decide) (by decide)) (Or.inr ⟨rfl, by decide⟩)) (sm_k (M := [(93, 62)]) (sm_s s1 M2 e59) okM_one (by decide)) (by
      have gr := (sn_one_gr A e 3 o p hp.2.2.2 q).2
      have b59 := s1.2.2
      refine sr_top (gq_tr R1.1 (ne_g e59 hd)) (by omega) ?_
      rw [ev]
      exact rp_not ⟨b59.1, by omega⟩ R1.2 e59 hd))
theorem fm_m_seAnd3 (hinj : nn_inj ad) : fw_H l cy ad wr cr D 343 18 (sp_m_seAnd 3) := fw_mk hinj (⟨"NameNotesModel", "readAnd", "()Z"⟩, prog_14_method_141_code, 2, (Option.some Jvm.ClassFile.FieldType.boolean), 0, true, 1) rfl rfl nn_KI20_ok nn_KJ20_ok nn_PF20_ok nn_PS20_ok (by decide +kernel) rfl rfl (List.forall_mem_cons.mpr ⟨fw_row nn_PM20_ok (x := 182) (k := 0) (mn := 212) (np := 0) (ob := true) (ci := 11) (⟨"NameNotesModel", "go", "()V"⟩, prog_14_method_17_code, 5, (Option.none : Option Jvm.ClassFile.FieldType), 0, true, 4) rfl (by decide +kernel) rfl rfl (by decide) (fun _ => ⟨_, _, rfl⟩) (fm_m_go hinj), (List.forall_mem_cons.mpr ⟨fw_row nn_PM20_ok (x := 225) (k := 0) (mn := 217) (np := 1) (ob := true) (ci := 11) (⟨"NameNotesModel", "isWord", "(I)Z"⟩, prog_14_method_20_code, 2, (Option.some Jvm.ClassFile.FieldType.boolean), 1, true, 1) rfl (by decide +kernel) rfl rfl (by decide) (fun _ => ⟨_, _, rfl⟩) (fm_m_isWord hinj), (List.forall_mem_cons.mpr ⟨fw_row nn_PM20_ok (x := 498) (k := 0) (mn := 347) (np := 4) (ob := true) (ci := 11) (⟨"NameNotesModel", "saysOne", "(IIII)I"⟩, prog_14_method_139_code, 6, (Option.some Jvm.ClassFile.FieldType.int), 4, true, 0) rfl (by decide +kernel) rfl rfl (by decide) (fun _ => ⟨_, _, rfl⟩) (fm_m_saysOne hinj), (List.forall_mem_cons.mpr ⟨fw_row nn_PM20_ok (x := 501) (k := 0) (mn := 344) (np := 0) (ob := true) (ci := 11) (⟨"NameNotesModel", "readOne", "()Z"⟩, prog_14_method_142_code, 4, (Option.some Jvm.ClassFile.FieldType.boolean), 0, true, 1) rfl (by decide +kernel) rfl rfl (by decide) (fun _ => ⟨_, _, rfl⟩) (fm_m_seOne3 hinj), (fun _ h => absurd h List.not_mem_nil)⟩)⟩)⟩)⟩) (fun as σ K h => by
  obtain ⟨A, e, p, o, z, g, rfl, ⟨hN, hm, hs, ho⟩, hg, h⟩ := h
  obtain ⟨h0, h1⟩ := h _ rfl
  have u0 : ∀ {X : Prop}, fw_c 0 ≠ 0 → X := fun z => absurd fw_c0 z
  have u1 : ∀ {X : Prop}, fw_c 1 = 0 → X := fun z => absurd (fw_c1.symm.trans z) (by decide)
  have og := sn_one_gr A e 3
  refine ⟨rfl, fun G hG => fs_m_seAnd3_0 hG ⟨A, e, p, o, z, rfl, ⟨hN, hm, hs, ho⟩, fun q σ' M a b => fs_m_seAnd3_4 hG ⟨u0, fun _ => ⟨fw_01, ?_⟩⟩, fun q σ1 M1 hm1 s1 R1 => fs_m_seAnd3_4 hG ⟨fun _ => ?_, u1⟩⟩⟩
  · rw [if_pos q] at h0
    exact h0 q σ' M a b
  · rw [if_neg (fun u => u q)] at h0 h1
    have gr := og o p ho q
    have loop : ∀ (f g1 o1 p1 : Nat) (τ : ab_SG) (a1 : Int) (LA : sl_T), 20 < f + o1 → 21 ≤ g1 + o1 → o + 1 ≤ o1 → o1 ≤ 20 → ab_okM sm_M σ τ → mt_is τ e p1 → sm_is τ o1 (8 - 3) (z + 1) → gq σ τ → rp (τ 121) (τ 93 59) (o1 - o) a1 LA → (∀ w : Bool, sl_one A e 3 o p ++ sl_lp (sn_one A e 3) (sl_one A e 3) e g w (sn_one A e 3 o p).2.2.1 (sn_one A e 3 o p).2.2.2 = LA ++ sl_lp (sn_one A e 3) (sl_one A e 3) e g1 w o1 p1) → sn_lp (sn_one A e 3) e g (sn_one A e 3 o p).2.2.1 (sn_one A e 3 o p).2.2.2 = sn_lp (sn_one A e 3) e g1 o1 p1 → G 14 [some (2, 93, 0), some (0, 0, a1)] [] τ := by
      intro f
      induction f with
      | zero =>
        intro g1 o1 p1 τ a1 LA hf _ _ h20 _ _ _ _ _ _ _
        omega
      | succ f ih =>
        intro g1 o1 p1 τ a1 LA hf hg1 ho1 h20 M hm' s' Q R hw hr
        refine fs_m_seAnd3_14 hG ⟨8, e, p1, rfl, by decide, hm'.1, ?_⟩
        show G 20 _ [(0, 0, fw_bo (tw e p1 = ((8 : Nat) : Int)))] τ
        by_cases c : tw e p1 = ((8 : Nat) : Int)
        · rw [fw_bo_t c]
          replace c : tw e p1 = 8 := c
          obtain ⟨g2, rfl⟩ : ∃ g2, g1 = g2 + 1 := ⟨g1 - 1, by omega⟩
          rw [sn_lps, if_pos (Or.inl c)] at hr
          refine fs_m_seAnd3_20 hG ⟨u1, fun _ => mt_go hm' (fun τ2 N2 hm2 => fs_m_seAnd3_27 hG ?_)⟩
          have M2 : ab_okM sm_M σ τ2 := ev_tr M (ev_up N2 (by decide))
          refine ⟨A, e, tn e p1, o1, z + 1, rfl, ⟨sm_NM M2 hN, hm2, sm_k s' N2 (by decide), h20⟩, fun q2 σ' M' a b => fs_m_seAnd3_31 hG ⟨u0, fun _ => ⟨fw_01, ?_⟩⟩, fun q2 τ3 M3 hm3 s3 R3 => fs_m_seAnd3_31 hG ⟨fun _ => ?_, u1⟩⟩
          · rw [if_pos q2] at hr
            rw [hr] at h0
            exact h0 q2 σ' (ev_tr M2 M') a b
          · rw [if_neg (fun u => u q2)] at hr
            have gr2 := og o1 (tn e p1) h20 q2
            have b59 := s3.2.2
            have Q3 : gq τ τ3 := gq_tr (gq_k N2 (by decide)) R3.1
            exact ⟨_, _, _, _, rfl, ⟨s3.2.2.1, by have := s3.2.2.2; omega⟩, fun v τ4 M4 e59 ev hd => fs_m_seAnd3_47 hG (ih g2 _ _ τ4 v (LA ++ (sl_one A e 3 o1 (tn e p1) ++ [(1, 0)])) (by omega) (by omega) (by omega) gr2.2 (ev_tr (ev_tr M2 M3) (ev_up M4 (by decide))) (mt_M hm3 M4 (by decide) (by decide)) (sm_s s3 M4 e59) (gq_tr (gq_tr Q Q3) (ne_g e59 hd)) (by
              rw [ev]
              exact rp_and (h := (sn_one A e 3 o1 (tn e p1)).2.2.1 - o) ⟨b59.1, by omega⟩ (rp_g Q3 (Nat.le_refl _) R) R3.2 e59 hd (by omega) (by omega)) (fun w => by
              rw [hw w, sl_lps, if_pos c, List.append_assoc, List.append_assoc]) hr)⟩
        · rw [fw_bo_f c]
          exact fs_m_seAnd3_20 hG ⟨fun _ => ⟨fw_11, h1 g1 o1 p1 _ hr c hg1 ho1 h20 (fw_okM_ups M (by decide)) (mt_ups hm' (Or.inr ⟨rfl, by decide⟩)) (sm_k (M := [(93, 62)]) s' okM_one (by decide)) LA hw (sr_top Q (by have := s'.2.2; omega) R)⟩, u0⟩
    exact loop 21 g _ _ σ1 _ _ (by omega) (by omega) gr.1 gr.2 M1 hm1 s1 R1.1 R1.2 (fun _ => rfl) rfl)
theorem fm_m_seOr3 (hinj : nn_inj ad) : fw_H l cy ad wr cr D 342 19 (sp_m_seOr 3) := fw_mk hinj (⟨"NameNotesModel", "readOr", "()Z"⟩, prog_14_method_140_code, 2, (Option.some Jvm.ClassFile.FieldType.boolean), 0, true, 1) rfl rfl nn_KI20_ok nn_KJ20_ok nn_PF20_ok nn_PS20_ok (by decide +kernel) rfl rfl (List.forall_mem_cons.mpr ⟨fw_row nn_PM20_ok (x := 182) (k := 0) (mn := 212) (np := 0) (ob := true) (ci := 11) (⟨"NameNotesModel", "go", "()V"⟩, prog_14_method_17_code, 5, (Option.none : Option Jvm.ClassFile.FieldType), 0, true, 4) rfl (by decide +kernel) rfl rfl (by decide) (fun _ => ⟨_, _, rfl⟩) (fm_m_go hinj), (List.forall_mem_cons.mpr ⟨fw_row nn_PM20_ok (x := 225) (k := 0) (mn := 217) (np := 1) (ob := true) (ci := 11) (⟨"NameNotesModel", "isWord", "(I)Z"⟩, prog_14_method_20_code, 2, (Option.some Jvm.ClassFile.FieldType.boolean), 1, true, 1) rfl (by decide +kernel) rfl rfl (by decide) (fun _ => ⟨_, _, rfl⟩) (fm_m_isWord hinj), (List.forall_mem_cons.mpr ⟨fw_row nn_PM20_ok (x := 492) (k := 0) (mn := 343) (np := 0) (ob := true) (ci := 11) (⟨"NameNotesModel", "readAnd", "()Z"⟩, prog_14_method_141_code, 2, (Option.some Jvm.ClassFile.FieldType.boolean), 0, true, 1) rfl (by decide +kernel) rfl rfl (by decide) (fun _ => ⟨_, _, rfl⟩) (fm_m_seAnd3 hinj), (List.forall_mem_cons.mpr ⟨fw_row nn_PM20_ok (x := 498) (k := 0) (mn := 347) (np := 4) (ob := true) (ci := 11) (⟨"NameNotesModel", "saysOne", "(IIII)I"⟩, prog_14_method_139_code, 6, (Option.some Jvm.ClassFile.FieldType.int), 4, true, 0) rfl (by decide +kernel) rfl rfl (by decide) (fun _ => ⟨_, _, rfl⟩) (fm_m_saysOne hinj), (fun _ h => absurd h List.not_mem_nil)⟩)⟩)⟩)⟩) (fun as σ K h => by
  obtain ⟨A, e, p, o, z, rfl, hp, h0, h1⟩ := h
  have u0 : ∀ {X : Prop}, fw_c 0 ≠ 0 → X := fun z => absurd fw_c0 z
  have u1 : ∀ {X : Prop}, fw_c 1 = 0 → X := fun z => absurd (fw_c1.symm.trans z) (by decide)
  refine ⟨rfl, fun G hG => ?_⟩
  have loop : ∀ (f g1 o1 p1 : Nat) (τ : ab_SG) (a1 : Int) (LO : sl_T), 20 < f + o1 → 21 ≤ g1 + o1 → o + 1 ≤ o1 → o1 ≤ 20 → tw e p1 ≠ 8 → ab_okM sm_M σ τ → mt_is τ e p1 → sm_is τ o1 (8 - 3) (z + 1) → gq σ τ → rp (τ 121) (τ 93 59) (o1 - o) a1 LO → sl_cd (sn_one A e 3) (sl_one A e 3) e o p = LO ++ sl_lp (sn_one A e 3) (sl_one A e 3) e g1 false o1 p1 → sn_cd (sn_one A e 3) e o p = sn_lp (sn_one A e 3) e g1 o1 p1 → G 14 [some (2, 93, 0), some (0, 0, a1)] [] τ := by
    intro f
    induction f with
    | zero =>
      intro g1 o1 p1 τ a1 LO hf _ _ h20 _ _ _ _ _ _ _ _
      omega
    | succ f ih =>
      intro g1 o1 p1 τ a1 LO hf hg1 ho1 h20 c8 M hm' s' Q R hw hr
      obtain ⟨g2, rfl⟩ : ∃ g2, g1 = g2 + 1 := ⟨g1 - 1, by omega⟩
      rw [sn_lps] at hr
      rw [sl_lps, if_neg c8] at hw
      refine fs_m_seOr3_14 hG ⟨7, e, p1, rfl, by decide, hm'.1, ?_⟩
      show G 20 _ [(0, 0, fw_bo (tw e p1 = ((7 : Nat) : Int)))] τ
      by_cases c : tw e p1 = ((7 : Nat) : Int)
      · rw [fw_bo_t c]
        replace c : tw e p1 = 7 := c
        rw [if_pos (Or.inr c)] at hr
        rw [if_pos c] at hw
        refine fs_m_seOr3_20 hG ⟨u1, fun _ => mt_go hm' (fun τ2 N2 hm2 => fs_m_seOr3_27 hG ?_)⟩
        have M2 : ab_okM sm_M σ τ2 := ev_tr M (ev_up N2 (by decide))
        refine ⟨A, e, tn e p1, o1, z + 1, g2, rfl, ⟨sm_NM M2 hp.1, hm2, sm_k s' N2 (by decide), h20⟩, by omega, fun F eF => ⟨fun q σ' M' a b => fs_m_seOr3_31 hG ⟨u0, fun _ => ⟨fw_01, ?_⟩⟩, fun g3 o3 p3 τ3 e3 c3 hg3 ho3 h203 M3 hm3 s3 L3 w3 R3 => fs_m_seOr3_31 hG ⟨fun _ => ?_, u1⟩⟩⟩
        · rw [hr.trans eF.symm] at h0
          exact h0 q σ' (ev_tr M2 M') a b
        · have b59 := s3.2.2
          have Q3 : gq τ τ3 := gq_tr (gq_k N2 (by decide)) R3.1
          exact ⟨_, _, _, _, rfl, ⟨s3.2.2.1, by have := s3.2.2.2; omega⟩, fun v τ4 M4 e59 ev hd => fs_m_seOr3_47 hG (ih g3 o3 p3 τ4 v (LO ++ (L3 ++ [(2, 0)])) (by omega) hg3 (by omega) h203 c3 (ev_tr (ev_tr M2 M3) (ev_up M4 (by decide))) (mt_M hm3 M4 (by decide) (by decide)) (sm_s s3 M4 e59) (gq_tr (gq_tr Q Q3) (ne_g e59 hd)) (by
            rw [ev]
            exact rp_or (h := o3 - o) ⟨b59.1, by omega⟩ (rp_g Q3 (Nat.le_refl _) R) R3.2 e59 hd (by omega) (by omega)) (by
            have w4 := w3 true
            rw [sl_lp_t c3] at w4
            rw [hw, w4, List.append_assoc, List.append_assoc]
            rfl) ((hr.trans eF.symm).trans e3))⟩
      · rw [fw_bo_f c]
        replace c : tw e p1 ≠ 7 := c
        rw [if_neg (fun u => u.elim c8 c)] at hr
        rw [if_neg c] at hw
        rw [hr, hw] at h1
        exact fs_m_seOr3_20 hG ⟨fun _ => ⟨fw_11, h1 rfl _ (fw_okM_ups M (by decide)) (mt_ups hm' (Or.inr ⟨rfl, by decide⟩)) (sm_k (M := [(93, 62)]) s' okM_one (by decide)) (by
          rw [show fl false = [] from rfl, List.append_nil]
          exact sr_top Q (by have := s'.2.2; omega) R)⟩, u0⟩
  refine fs_m_seOr3_0 hG ⟨A, e, p, o, z, 20, rfl, hp, by omega, fun F eF => ⟨fun q σ' M a b => fs_m_seOr3_4 hG ⟨u0, fun _ => ⟨fw_01, ?_⟩⟩, fun g' o' p' σ1 eq c8 hg ho1 ho2 M1 hm1 s1 LA wA RA => fs_m_seOr3_4 hG ⟨fun _ => ?_, u1⟩⟩⟩
  · have ec : sn_cd (sn_one A e 3) e o p = F := eF.symm
    rw [ec] at h0
    exact h0 q σ' M a b
  · have ec : sn_cd (sn_one A e 3) e o p = F := eF.symm
    exact loop 21 g' o' p' σ1 _ LA (by omega) hg ho1 ho2 c8 M1 hm1 s1 RA.1 RA.2 (wA false) (ec.trans eq))
theorem fm_m_seBr3 (hinj : nn_inj ad) : fw_H l cy ad wr cr D 345 20 (sp_m_seBr 3) := fw_mk hinj (⟨"NameNotesModel", "readBracket", "()Z"⟩, prog_14_method_144_code, 1, (Option.some Jvm.ClassFile.FieldType.boolean), 0, true, 1) rfl rfl nn_KI20_ok nn_KJ20_ok nn_PF20_ok nn_PS20_ok (by decide +kernel) rfl rfl (List.forall_mem_cons.mpr ⟨fw_row nn_PM20_ok (x := 168) (k := 0) (mn := 221) (np := 1) (ob := true) (ci := 11) (⟨"NameNotesModel", "bad", "(I)Z"⟩, prog_14_method_23_code, 2, (Option.some Jvm.ClassFile.FieldType.boolean), 1, true, 1) rfl (by decide +kernel) rfl rfl (by decide) (fun _ => ⟨_, _, rfl⟩) (fm_m_bad hinj), (List.forall_mem_cons.mpr ⟨fw_row nn_PM20_ok (x := 182) (k := 0) (mn := 212) (np := 0) (ob := true) (ci := 11) (⟨"NameNotesModel", "go", "()V"⟩, prog_14_method_17_code, 5, (Option.none : Option Jvm.ClassFile.FieldType), 0, true, 4) rfl (by decide +kernel) rfl rfl (by decide) (fun _ => ⟨_, _, rfl⟩) (fm_m_go hinj), (List.forall_mem_cons.mpr ⟨fw_row nn_PM20_ok (x := 185) (k := 0) (mn := 236) (np := 1) (ob := true) (ci := 11) (⟨"NameNotesModel", "isSign", "(I)Z"⟩, prog_14_method_21_code, 2, (Option.some Jvm.ClassFile.FieldType.boolean), 1, true, 1) rfl (by decide +kernel) rfl rfl (by decide) (fun _ => ⟨_, _, rfl⟩) (fm_m_isSign hinj), (List.forall_mem_cons.mpr ⟨fw_row nn_PM20_ok (x := 522) (k := 0) (mn := 342) (np := 0) (ob := true) (ci := 11) (⟨"NameNotesModel", "readOr", "()Z"⟩, prog_14_method_140_code, 2, (Option.some Jvm.ClassFile.FieldType.boolean), 0, true, 1) rfl (by decide +kernel) rfl rfl (by decide) (fun _ => ⟨_, _, rfl⟩) (fm_m_seOr3 hinj), (fun _ h => absurd h List.not_mem_nil)⟩)⟩)⟩)⟩) (fun as σ K h => by
  obtain ⟨A, e, p, o, z, rfl, hp, h0, h1⟩ := h
  have u0 : ∀ {X : Prop}, fw_c 0 ≠ 0 → X := fun z => absurd fw_c0 z
  have u1 : ∀ {X : Prop}, fw_c 1 = 0 → X := fun z => absurd (fw_c1.symm.trans z) (by decide)
  refine ⟨rfl, fun G hG => fs_m_seBr3_0 hG ⟨A, e, p, o, z, rfl, hp, ?_⟩⟩
  generalize sn_cd (sn_one A e 3) e o p = r at h0 h1 ⊢
  refine ⟨fun q σ' M a b => fs_m_seBr3_4 hG ⟨u0, fun _ => ⟨fw_01, ?_⟩⟩, fun q σ1 M1 hm1 s1 R1 => fs_m_seBr3_4 hG ⟨fun _ => ⟨41, e, r.2.2.2, rfl, Or.inr (Or.inr (Or.inr rfl)), hm1.1, ?_⟩, u1⟩⟩
  · rw [show sn_br e r = r from if_pos q] at h0
    exact h0 q σ' M a b
  · show G 15 _ [(0, 0, fw_bo ((tk e r.2.2.2).1 = 41))] σ1
    by_cases c : (tk e r.2.2.2).1 = 41
    · rw [fw_bo_t c]
      have eb : sn_br e r = (0, 0, r.2.2.1, tn e r.2.2.2) := (if_neg (fun u => u q)).trans (if_neg (fun u => u c))
      rw [eb] at h1
      exact fs_m_seBr3_15 hG ⟨fun _ => mt_go hm1 (fun σ2 N2 hm2 => fs_m_seBr3_28 hG ⟨fw_11, h1 rfl σ2 (ev_tr M1 (ev_up N2 (by decide))) hm2 (sm_k s1 N2 (by decide)) (sr_k R1 N2 (by decide))⟩), u1⟩
    · rw [fw_bo_f c]
      have eb : sn_br e r = (1, ev_st e r.2.2.2, r.2.2.1, r.2.2.2) := (if_neg (fun u => u q)).trans (if_pos c)
      rw [eb] at h0
      refine fs_m_seBr3_15 hG ⟨u0, fun _ => mp_bad hm1.1 (by decide) (fun σ' hM h10 h11 => fs_m_seBr3_23 hG ⟨fw_01, h0 (show (1 : Int) ≠ 0 by decide) σ' (ev_tr M1 (ev_up hM (by decide))) ?_ h11⟩)⟩
      rw [h10]
      split <;> rfl)
end
abbrev fk_m_seOne4 : List fw_CR := [(168, 1, true, 11, 0, sp_m_bad), (182, 0, true, 11, 1, sp_m_go), (185, 1, true, 11, 0, sp_m_isSign), (225, 1, true, 11, 2, sp_m_isWord), (261, 0, true, 11, 0, sp_m_tunes), (510, 0, true, 11, 20, sp_m_seBr 3), (513, 0, true, 11, 18, sp_m_seNot 3), (516, 3, true, 11, 3, sp_m_seOf), (519, 1, true, 11, 3, sp_m_seCmp)]
abbrev st_m_seOne4 : fw_K → fw_KR → fw_K := fw_st vwCl nn_sh nn_kd fw_kv fw_wc (nn_KI20.map (fun x => x.1)) (nn_KJ20.map (fun x => x.1)) (nn_PF20.map (fun x => x.1)) (nn_PS20.map (fun x => x.1)) fk_m_seOne4 21 nn_dt344 4 1
theorem fs_m_seOne4_0 {G : fw_K} {R : fw_KR} (hG : fw_cls st_m_seOne4 R G) {σ : ab_SG} (h : sp_m_isSign [(2, 93, 0), (0, 0, 40)] σ (fun rv σ2 => G 6 [some (2, 93, 0), none, none, none] (rv.toList ++ []) σ2)) : G 0 [some (2, 93, 0), none, none, none] [] σ := fw_on hG [6, 10, 21, 30, 45, 46, 64, 69, 94, 104, 118, 141, 164, 181, 184, 193, 194] 200 h
theorem fs_m_seOne4_6 {G : fw_K} {R : fw_KR} (hG : fw_cls st_m_seOne4 R G) {b0 : Int} {o1 o3 : Option ab_AV} {σ : ab_SG} (h : G 10 [some (2, 93, 0), some (0, 0, b0), some (0, 0, 9), o3] [] σ) : G 6 [some (2, 93, 0), o1, none, o3] [(0, 0, b0)] σ := fw_on hG [6, 10, 21, 30, 45, 46, 64, 69, 94, 104, 118, 141, 164, 181, 184, 193, 194] 200 h
theorem fs_m_seOne4_10 {G : fw_K} {R : fw_KR} (hG : fw_cls st_m_seOne4 R G) {a1 a2 : Int} {o3 : Option ab_AV} {σ : ab_SG} (h : (fw_c 16 < fw_c a2 → G 30 [some (2, 93, 0), some (0, 0, a1), some (0, 0, a2), o3] [] σ) ∧ (fw_c a2 ≤ fw_c 16 → sp_m_isWord [(2, 93, 0), (0, 0, a2)] σ (fun rv σ2 => G 21 [some (2, 93, 0), some (0, 0, a1), some (0, 0, a2), o3] (rv.toList ++ []) σ2))) : G 10 [some (2, 93, 0), some (0, 0, a1), some (0, 0, a2), o3] [] σ := fw_on hG [6, 10, 21, 30, 45, 46, 64, 69, 94, 104, 118, 141, 164, 181, 184, 193, 194] 200 h
theorem fs_m_seOne4_30 {G : fw_K} {R : fw_KR} (hG : fw_cls st_m_seOne4 R G) {a1 a2 : Int} {o3 : Option ab_AV} {σ : ab_SG} (h : (fw_c a1 ≠ 0 → G 46 [some (2, 93, 0), some (0, 0, a1), some (0, 0, a2), o3] [] σ) ∧ (fw_c a1 = 0 → (fw_c a2 ≤ fw_c 16 → G 46 [some (2, 93, 0), some (0, 0, a1), some (0, 0, a2), o3] [] σ) ∧ (fw_c 16 < fw_c a2 → sp_m_bad [(2, 93, 0), (0, 0, 1)] σ (fun rv σ2 => G 45 [some (2, 93, 0), some (0, 0, a1), some (0, 0, a2), o3] (rv.toList ++ []) σ2)))) : G 30 [some (2, 93, 0), some (0, 0, a1), some (0, 0, a2), o3] [] σ := fw_on hG [6, 10, 21, 30, 45, 46, 64, 69, 94, 104, 118, 141, 164, 181, 184, 193, 194] 200 h
theorem fs_m_seOne4_21 {G : fw_K} {R : fw_KR} (hG : fw_cls st_m_seOne4 R G) {a1 a2 b0 : Int} {o3 : Option ab_AV} {σ : ab_SG} (h : (fw_c b0 ≠ 0 → G 30 [some (2, 93, 0), some (0, 0, a1), some (0, 0, a2), o3] [] σ) ∧ (fw_c b0 = 0 → G 10 [some (2, 93, 0), some (0, 0, a1), some (0, 0, a2 + 1), o3] [] σ)) : G 21 [some (2, 93, 0), some (0, 0, a1), some (0, 0, a2), o3] [(0, 0, b0)] σ := fw_on hG [6, 10, 21, 30, 45, 46, 64, 69, 94, 104, 118, 141, 164, 181, 184, 193, 194] 200 h
theorem fs_m_seOne4_46 {G : fw_K} {R : fw_KR} (hG : fw_cls st_m_seOne4 R G) {a1 a2 : Int} {o3 : Option ab_AV} {σ : ab_SG} (h : (fw_c (σ 93 60) = fw_c 20 → G 64 [some (2, 93, 0), some (0, 0, a1), some (0, 0, a2), o3] [] σ) ∧ (fw_c (σ 93 60) ≠ fw_c 20 → (fw_c (σ 93 61) ≠ fw_c 8 → sp_m_go [(2, 93, 0)] (ab_ups (ab_ups σ 93 60 (fw_c ((σ 93 60) + 1))) 93 61 (fw_c ((σ 93 61) + 1))) (fun rv σ2 => G 94 [some (2, 93, 0), some (0, 0, a1), some (0, 0, a2), o3] (rv.toList ++ []) σ2)) ∧ (fw_c (σ 93 61) = fw_c 8 → G 64 [some (2, 93, 0), some (0, 0, a1), some (0, 0, a2), o3] [] σ))) : G 46 [some (2, 93, 0), some (0, 0, a1), some (0, 0, a2), o3] [] σ := fw_on hG [6, 10, 21, 30, 45, 46, 64, 69, 94, 104, 118, 141, 164, 181, 184, 193, 194] 200 h
theorem fs_m_seOne4_45 {G : fw_K} {R : fw_KR} (hG : fw_cls st_m_seOne4 R G) {a2 b0 : Int} {o1 o3 : Option ab_AV} {σ : ab_SG} (h : (0 ≤ fw_c b0 ∧ fw_c b0 ≤ 1) ∧ R (some (0, 0, b0)) σ) : G 45 [some (2, 93, 0), o1, some (0, 0, a2), o3] [(0, 0, b0)] σ := fw_on hG [6, 10, 21, 30, 45, 46, 64, 69, 94, 104, 118, 141, 164, 181, 184, 193, 194] 200 h
theorem fs_m_seOne4_64 {G : fw_K} {R : fw_KR} (hG : fw_cls st_m_seOne4 R G) {a2 : Int} {o1 o3 : Option ab_AV} {σ : ab_SG} (h : sp_m_bad [(2, 93, 0), (0, 0, 4)] σ (fun rv σ2 => G 69 [some (2, 93, 0), o1, some (0, 0, a2), o3] (rv.toList ++ []) σ2)) : G 64 [some (2, 93, 0), o1, some (0, 0, a2), o3] [] σ := fw_on hG [6, 10, 21, 30, 45, 46, 64, 69, 94, 104, 118, 141, 164, 181, 184, 193, 194] 200 h
theorem fs_m_seOne4_94 {G : fw_K} {R : fw_KR} (hG : fw_cls st_m_seOne4 R G) {a1 a2 : Int} {o3 : Option ab_AV} {σ : ab_SG} (h : (fw_c a1 = 0 → (fw_c a2 ≠ fw_c 9 → (fw_c a2 ≠ fw_c 10 → (fw_c a2 ≠ fw_c 11 → (fw_c a2 ≠ fw_c 12 → sp_m_seCmp [(2, 93, 0), (0, 0, a2)] σ (fun rv σ2 => G 193 [some (2, 93, 0), some (0, 0, a1), some (0, 0, a2), some (0, 0, 1)] (rv.toList ++ []) σ2)) ∧ (fw_c a2 = fw_c 12 → sp_m_tunes [(2, 93, 0)] σ (fun rv σ2 => G 181 [some (2, 93, 0), some (0, 0, a1), some (0, 0, a2), some (0, 0, 1)] (rv.toList ++ [(0, 0, 0), (0, 0, a2), (2, 93, 0)]) σ2))) ∧ (fw_c a2 = fw_c 11 → (0 ≤ fw_c 2 ∧ fw_c 2 < ((474 : Nat) : Int)) ∧ (sp_m_seOf [(2, 93, 0), (0, 0, a2), (0, 0, 15), (0, 0, σ 95 (fw_c 2).toNat)] σ (fun rv σ2 => G 164 [some (2, 93, 0), some (0, 0, a1), some (0, 0, a2), some (0, 0, 1)] (rv.toList ++ []) σ2)))) ∧ (fw_c a2 = fw_c 10 → (0 ≤ fw_c 1 ∧ fw_c 1 < ((474 : Nat) : Int)) ∧ (sp_m_seOf [(2, 93, 0), (0, 0, a2), (0, 0, 9), (0, 0, σ 95 (fw_c 1).toNat)] σ (fun rv σ2 => G 141 [some (2, 93, 0), some (0, 0, a1), some (0, 0, a2), some (0, 0, 1)] (rv.toList ++ []) σ2)))) ∧ (fw_c a2 = fw_c 9 → sp_m_seNot 3 [(2, 93, 0)] σ (fun rv σ2 => G 118 [some (2, 93, 0), some (0, 0, a1), some (0, 0, a2), some (0, 0, 1)] (rv.toList ++ []) σ2))) ∧ (fw_c a1 ≠ 0 → sp_m_seBr 3 [(2, 93, 0)] σ (fun rv σ2 => G 104 [some (2, 93, 0), some (0, 0, a1), some (0, 0, a2), some (0, 0, 1)] (rv.toList ++ []) σ2))) : G 94 [some (2, 93, 0), some (0, 0, a1), some (0, 0, a2), o3] [] σ := fw_on hG [6, 10, 21, 30, 45, 46, 64, 69, 94, 104, 118, 141, 164, 181, 184, 193, 194] 200 h
theorem fs_m_seOne4_69 {G : fw_K} {R : fw_KR} (hG : fw_cls st_m_seOne4 R G) {a2 b0 : Int} {o1 o3 : Option ab_AV} {σ : ab_SG} (h : (0 ≤ fw_c b0 ∧ fw_c b0 ≤ 1) ∧ R (some (0, 0, b0)) σ) : G 69 [some (2, 93, 0), o1, some (0, 0, a2), o3] [(0, 0, b0)] σ := fw_on hG [6, 10, 21, 30, 45, 46, 64, 69, 94, 104, 118, 141, 164, 181, 184, 193, 194] 200 h
theorem fs_m_seOne4_193 {G : fw_K} {R : fw_KR} (hG : fw_cls st_m_seOne4 R G) {a2 b0 : Int} {o1 o3 : Option ab_AV} {σ : ab_SG} (h : G 194 [some (2, 93, 0), o1, some (0, 0, a2), some (0, 0, b0)] [] σ) : G 193 [some (2, 93, 0), o1, some (0, 0, a2), o3] [(0, 0, b0)] σ := fw_on hG [6, 10, 21, 30, 45, 46, 64, 69, 94, 104, 118, 141, 164, 181, 184, 193, 194] 200 h
theorem fs_m_seOne4_181 {G : fw_K} {R : fw_KR} (hG : fw_cls st_m_seOne4 R G) {a2 b0 b1 b2 : Int} {o1 o3 : Option ab_AV} {σ : ab_SG} (h : sp_m_seOf [(2, 93, 0), (0, 0, b2), (0, 0, b1), (0, 0, b0)] σ (fun rv σ2 => G 184 [some (2, 93, 0), o1, some (0, 0, a2), o3] (rv.toList ++ []) σ2)) : G 181 [some (2, 93, 0), o1, some (0, 0, a2), o3] [(0, 0, b0), (0, 0, b1), (0, 0, b2), (2, 93, 0)] σ := fw_on hG [6, 10, 21, 30, 45, 46, 64, 69, 94, 104, 118, 141, 164, 181, 184, 193, 194] 200 h
theorem fs_m_seOne4_164 {G : fw_K} {R : fw_KR} (hG : fw_cls st_m_seOne4 R G) {a2 b0 : Int} {o1 o3 : Option ab_AV} {σ : ab_SG} (h : G 194 [some (2, 93, 0), o1, some (0, 0, a2), some (0, 0, b0)] [] σ) : G 164 [some (2, 93, 0), o1, some (0, 0, a2), o3] [(0, 0, b0)] σ := fw_on hG [6, 10, 21, 30, 45, 46, 64, 69, 94, 104, 118, 141, 164, 181, 184, 193, 194] 200 h
theorem fs_m_seOne4_141 {G : fw_K} {R : fw_KR} (hG : fw_cls st_m_seOne4 R G) {a2 b0 : Int} {o1 o3 : Option ab_AV} {σ : ab_SG} (h : G 194 [some (2, 93, 0), o1, some (0, 0, a2), some (0, 0, b0)] [] σ) : G 141 [some (2, 93, 0), o1, some (0, 0, a2), o3] [(0, 0, b0)] σ := fw_on hG [6, 10, 21, 30, 45, 46, 64, 69, 94, 104, 118, 141, 164, 181, 184, 193, 194] 200 h
theorem fs_m_seOne4_118 {G : fw_K} {R : fw_KR} (hG : fw_cls st_m_seOne4 R G) {a2 b0 : Int} {o1 o3 : Option ab_AV} {σ : ab_SG} (h : G 194 [some (2, 93, 0), o1, some (0, 0, a2), some (0, 0, b0)] [] σ) : G 118 [some (2, 93, 0), o1, some (0, 0, a2), o3] [(0, 0, b0)] σ := fw_on hG [6, 10, 21, 30, 45, 46, 64, 69, 94, 104, 118, 141, 164, 181, 184, 193, 194] 200 h
theorem fs_m_seOne4_104 {G : fw_K} {R : fw_KR} (hG : fw_cls st_m_seOne4 R G) {a2 b0 : Int} {o1 o3 : Option ab_AV} {σ : ab_SG} (h : G 194 [some (2, 93, 0), o1, some (0, 0, a2), some (0, 0, b0)] [] σ) : G 104 [some (2, 93, 0), o1, some (0, 0, a2), o3] [(0, 0, b0)] σ := fw_on hG [6, 10, 21, 30, 45, 46, 64, 69, 94, 104, 118, 141, 164, 181, 184, 193, 194] 200 h
theorem fs_m_seOne4_194 {G : fw_K} {R : fw_KR} (hG : fw_cls st_m_seOne4 R G) {a2 a3 : Int} {o1 : Option ab_AV} {σ : ab_SG} (h : (0 ≤ fw_c a3 ∧ fw_c a3 ≤ 1) ∧ R (some (0, 0, a3)) (ab_ups σ 93 61 (fw_c ((σ 93 61) - 1)))) : G 194 [some (2, 93, 0), o1, some (0, 0, a2), some (0, 0, a3)] [] σ := fw_on hG [6, 10, 21, 30, 45, 46, 64, 69, 94, 104, 118, 141, 164, 181, 184, 193, 194] 200 h
theorem fs_m_seOne4_184 {G : fw_K} {R : fw_KR} (hG : fw_cls st_m_seOne4 R G) {a2 b0 : Int} {o1 o3 : Option ab_AV} {σ : ab_SG} (h : G 194 [some (2, 93, 0), o1, some (0, 0, a2), some (0, 0, b0)] [] σ) : G 184 [some (2, 93, 0), o1, some (0, 0, a2), o3] [(0, 0, b0)] σ := fw_on hG [6, 10, 21, 30, 45, 46, 64, 69, 94, 104, 118, 141, 164, 181, 184, 193, 194] 200 h
abbrev fk_m_seAnd4 : List fw_CR := [(182, 0, true, 11, 1, sp_m_go), (225, 1, true, 11, 2, sp_m_isWord), (498, 4, true, 11, 0, sp_m_saysOne), (501, 0, true, 11, 21, sp_m_seOne 4)]
abbrev st_m_seAnd4 : fw_K → fw_KR → fw_K := fw_st vwCl nn_sh nn_kd fw_kv fw_wc (nn_KI20.map (fun x => x.1)) (nn_KJ20.map (fun x => x.1)) (nn_PF20.map (fun x => x.1)) (nn_PS20.map (fun x => x.1)) fk_m_seAnd4 22 nn_dt343 2 1
theorem fs_m_seAnd4_0 {G : fw_K} {R : fw_KR} (hG : fw_cls st_m_seAnd4 R G) {σ : ab_SG} (h : sp_m_seOne 4 [(2, 93, 0)] σ (fun rv σ2 => G 4 [some (2, 93, 0), none] (rv.toList ++ []) σ2)) : G 0 [some (2, 93, 0), none] [] σ := fw_on hG [4, 14, 20, 27, 31, 47] 200 h
theorem fs_m_seAnd4_4 {G : fw_K} {R : fw_KR} (hG : fw_cls st_m_seAnd4 R G) {b0 : Int} {o1 : Option ab_AV} {σ : ab_SG} (h : (fw_c b0 ≠ 0 → G 14 [some (2, 93, 0), some (0, 0, σ 93 62)] [] σ) ∧ (fw_c b0 = 0 → (0 ≤ fw_c 0 ∧ fw_c 0 ≤ 1) ∧ R (some (0, 0, 0)) σ)) : G 4 [some (2, 93, 0), o1] [(0, 0, b0)] σ := fw_on hG [4, 14, 20, 27, 31, 47] 200 h
theorem fs_m_seAnd4_14 {G : fw_K} {R : fw_KR} (hG : fw_cls st_m_seAnd4 R G) {a1 : Int} {σ : ab_SG} (h : sp_m_isWord [(2, 93, 0), (0, 0, 8)] σ (fun rv σ2 => G 20 [some (2, 93, 0), some (0, 0, a1)] (rv.toList ++ []) σ2)) : G 14 [some (2, 93, 0), some (0, 0, a1)] [] σ := fw_on hG [4, 14, 20, 27, 31, 47] 200 h
theorem fs_m_seAnd4_20 {G : fw_K} {R : fw_KR} (hG : fw_cls st_m_seAnd4 R G) {a1 b0 : Int} {σ : ab_SG} (h : (fw_c b0 = 0 → (0 ≤ fw_c 1 ∧ fw_c 1 ≤ 1) ∧ R (some (0, 0, 1)) (ab_ups σ 93 62 (fw_c a1))) ∧ (fw_c b0 ≠ 0 → sp_m_go [(2, 93, 0)] σ (fun rv σ2 => G 27 [some (2, 93, 0), some (0, 0, a1)] (rv.toList ++ []) σ2))) : G 20 [some (2, 93, 0), some (0, 0, a1)] [(0, 0, b0)] σ := fw_on hG [4, 14, 20, 27, 31, 47] 200 h
theorem fs_m_seAnd4_27 {G : fw_K} {R : fw_KR} (hG : fw_cls st_m_seAnd4 R G) {a1 : Int} {σ : ab_SG} (h : sp_m_seOne 4 [(2, 93, 0)] σ (fun rv σ2 => G 31 [some (2, 93, 0), some (0, 0, a1)] (rv.toList ++ []) σ2)) : G 27 [some (2, 93, 0), some (0, 0, a1)] [] σ := fw_on hG [4, 14, 20, 27, 31, 47] 200 h
theorem fs_m_seAnd4_31 {G : fw_K} {R : fw_KR} (hG : fw_cls st_m_seAnd4 R G) {a1 b0 : Int} {σ : ab_SG} (h : (fw_c b0 ≠ 0 → sp_m_saysOne [(2, 93, 0), (0, 0, 2), (0, 0, a1), (0, 0, σ 93 62), (0, 0, 0)] σ (fun rv σ2 => G 47 [some (2, 93, 0), some (0, 0, a1)] (rv.toList ++ []) σ2)) ∧ (fw_c b0 = 0 → (0 ≤ fw_c 0 ∧ fw_c 0 ≤ 1) ∧ R (some (0, 0, 0)) σ)) : G 31 [some (2, 93, 0), some (0, 0, a1)] [(0, 0, b0)] σ := fw_on hG [4, 14, 20, 27, 31, 47] 200 h
theorem fs_m_seAnd4_47 {G : fw_K} {R : fw_KR} (hG : fw_cls st_m_seAnd4 R G) {b0 : Int} {o1 : Option ab_AV} {σ : ab_SG} (h : G 14 [some (2, 93, 0), some (0, 0, b0)] [] σ) : G 47 [some (2, 93, 0), o1] [(0, 0, b0)] σ := fw_on hG [4, 14, 20, 27, 31, 47] 200 h
abbrev fk_m_seOr4 : List fw_CR := [(182, 0, true, 11, 1, sp_m_go), (225, 1, true, 11, 2, sp_m_isWord), (492, 0, true, 11, 22, sp_m_seAnd 4), (498, 4, true, 11, 0, sp_m_saysOne)]
abbrev st_m_seOr4 : fw_K → fw_KR → fw_K := fw_st vwCl nn_sh nn_kd fw_kv fw_wc (nn_KI20.map (fun x => x.1)) (nn_KJ20.map (fun x => x.1)) (nn_PF20.map (fun x => x.1)) (nn_PS20.map (fun x => x.1)) fk_m_seOr4 23 nn_dt342 2 1
theorem fs_m_seOr4_0 {G : fw_K} {R : fw_KR} (hG : fw_cls st_m_seOr4 R G) {σ : ab_SG} (h : sp_m_seAnd 4 [(2, 93, 0)] σ (fun rv σ2 => G 4 [some (2, 93, 0), none] (rv.toList ++ []) σ2)) : G 0 [some (2, 93, 0), none] [] σ := fw_on hG [4, 14, 20, 27, 31, 47] 200 h
theorem fs_m_seOr4_4 {G : fw_K} {R : fw_KR} (hG : fw_cls st_m_seOr4 R G) {b0 : Int} {o1 : Option ab_AV} {σ : ab_SG} (h : (fw_c b0 ≠ 0 → G 14 [some (2, 93, 0), some (0, 0, σ 93 62)] [] σ) ∧ (fw_c b0 = 0 → (0 ≤ fw_c 0 ∧ fw_c 0 ≤ 1) ∧ R (some (0, 0, 0)) σ)) : G 4 [some (2, 93, 0), o1] [(0, 0, b0)] σ := fw_on hG [4, 14, 20, 27, 31, 47] 200 h
theorem fs_m_seOr4_14 {G : fw_K} {R : fw_KR} (hG : fw_cls st_m_seOr4 R G) {a1 : Int} {σ : ab_SG} (h : sp_m_isWord [(2, 93, 0), (0, 0, 7)] σ (fun rv σ2 => G 20 [some (2, 93, 0), some (0, 0, a1)] (rv.toList ++ []) σ2)) : G 14 [some (2, 93, 0), some (0, 0, a1)] [] σ := fw_on hG [4, 14, 20, 27, 31, 47] 200 h
theorem fs_m_seOr4_20 {G : fw_K} {R : fw_KR} (hG : fw_cls st_m_seOr4 R G) {a1 b0 : Int} {σ : ab_SG} (h : (fw_c b0 = 0 → (0 ≤ fw_c 1 ∧ fw_c 1 ≤ 1) ∧ R (some (0, 0, 1)) (ab_ups σ 93 62 (fw_c a1))) ∧ (fw_c b0 ≠ 0 → sp_m_go [(2, 93, 0)] σ (fun rv σ2 => G 27 [some (2, 93, 0), some (0, 0, a1)] (rv.toList ++ []) σ2))) : G 20 [some (2, 93, 0), some (0, 0, a1)] [(0, 0, b0)] σ := fw_on hG [4, 14, 20, 27, 31, 47] 200 h
theorem fs_m_seOr4_27 {G : fw_K} {R : fw_KR} (hG : fw_cls st_m_seOr4 R G) {a1 : Int} {σ : ab_SG} (h : sp_m_seAnd 4 [(2, 93, 0)] σ (fun rv σ2 => G 31 [some (2, 93, 0), some (0, 0, a1)] (rv.toList ++ []) σ2)) : G 27 [some (2, 93, 0), some (0, 0, a1)] [] σ := fw_on hG [4, 14, 20, 27, 31, 47] 200 h
theorem fs_m_seOr4_31 {G : fw_K} {R : fw_KR} (hG : fw_cls st_m_seOr4 R G) {a1 b0 : Int} {σ : ab_SG} (h : (fw_c b0 ≠ 0 → sp_m_saysOne [(2, 93, 0), (0, 0, 3), (0, 0, a1), (0, 0, σ 93 62), (0, 0, 0)] σ (fun rv σ2 => G 47 [some (2, 93, 0), some (0, 0, a1)] (rv.toList ++ []) σ2)) ∧ (fw_c b0 = 0 → (0 ≤ fw_c 0 ∧ fw_c 0 ≤ 1) ∧ R (some (0, 0, 0)) σ)) : G 31 [some (2, 93, 0), some (0, 0, a1)] [(0, 0, b0)] σ := fw_on hG [4, 14, 20, 27, 31, 47] 200 h
theorem fs_m_seOr4_47 {G : fw_K} {R : fw_KR} (hG : fw_cls st_m_seOr4 R G) {b0 : Int} {o1 : Option ab_AV} {σ : ab_SG} (h : G 14 [some (2, 93, 0), some (0, 0, b0)] [] σ) : G 47 [some (2, 93, 0), o1] [(0, 0, b0)] σ := fw_on hG [4, 14, 20, 27, 31, 47] 200 h
abbrev fk_m_seBr4 : List fw_CR := [(168, 1, true, 11, 0, sp_m_bad), (182, 0, true, 11, 1, sp_m_go), (185, 1, true, 11, 0, sp_m_isSign), (522, 0, true, 11, 23, sp_m_seOr 4)]
abbrev st_m_seBr4 : fw_K → fw_KR → fw_K := fw_st vwCl nn_sh nn_kd fw_kv fw_wc (nn_KI20.map (fun x => x.1)) (nn_KJ20.map (fun x => x.1)) (nn_PF20.map (fun x => x.1)) (nn_PS20.map (fun x => x.1)) fk_m_seBr4 24 nn_dt345 1 1
theorem fs_m_seBr4_0 {G : fw_K} {R : fw_KR} (hG : fw_cls st_m_seBr4 R G) {σ : ab_SG} (h : sp_m_seOr 4 [(2, 93, 0)] σ (fun rv σ2 => G 4 [some (2, 93, 0)] (rv.toList ++ []) σ2)) : G 0 [some (2, 93, 0)] [] σ := fw_on hG [4, 15, 23, 28] 200 h
theorem fs_m_seBr4_4 {G : fw_K} {R : fw_KR} (hG : fw_cls st_m_seBr4 R G) {b0 : Int} {σ : ab_SG} (h : (fw_c b0 ≠ 0 → sp_m_isSign [(2, 93, 0), (0, 0, 41)] σ (fun rv σ2 => G 15 [some (2, 93, 0)] (rv.toList ++ []) σ2)) ∧ (fw_c b0 = 0 → (0 ≤ fw_c 0 ∧ fw_c 0 ≤ 1) ∧ R (some (0, 0, 0)) σ)) : G 4 [some (2, 93, 0)] [(0, 0, b0)] σ := fw_on hG [4, 15, 23, 28] 200 h
theorem fs_m_seBr4_15 {G : fw_K} {R : fw_KR} (hG : fw_cls st_m_seBr4 R G) {b0 : Int} {σ : ab_SG} (h : (fw_c b0 ≠ 0 → sp_m_go [(2, 93, 0)] σ (fun rv σ2 => G 28 [some (2, 93, 0)] (rv.toList ++ []) σ2)) ∧ (fw_c b0 = 0 → sp_m_bad [(2, 93, 0), (0, 0, 1)] σ (fun rv σ2 => G 23 [some (2, 93, 0)] (rv.toList ++ []) σ2))) : G 15 [some (2, 93, 0)] [(0, 0, b0)] σ := fw_on hG [4, 15, 23, 28] 200 h
theorem fs_m_seBr4_28 {G : fw_K} {R : fw_KR} (hG : fw_cls st_m_seBr4 R G) {σ : ab_SG} (h : (0 ≤ fw_c 1 ∧ fw_c 1 ≤ 1) ∧ R (some (0, 0, 1)) σ) : G 28 [some (2, 93, 0)] [] σ := fw_on hG [4, 15, 23, 28] 200 h
theorem fs_m_seBr4_23 {G : fw_K} {R : fw_KR} (hG : fw_cls st_m_seBr4 R G) {b0 : Int} {σ : ab_SG} (h : (0 ≤ fw_c b0 ∧ fw_c b0 ≤ 1) ∧ R (some (0, 0, b0)) σ) : G 23 [some (2, 93, 0)] [(0, 0, b0)] σ := fw_on hG [4, 15, 23, 28] 200 h
abbrev fk_m_seNot4 : List fw_CR := [(498, 4, true, 11, 0, sp_m_saysOne), (501, 0, true, 11, 21, sp_m_seOne 4)]
abbrev st_m_seNot4 : fw_K → fw_KR → fw_K := fw_st vwCl nn_sh nn_kd fw_kv fw_wc (nn_KI20.map (fun x => x.1)) (nn_KJ20.map (fun x => x.1)) (nn_PF20.map (fun x => x.1)) (nn_PS20.map (fun x => x.1)) fk_m_seNot4 22 nn_dt346 1 1
theorem fs_m_seNot4_0 {G : fw_K} {R : fw_KR} (hG : fw_cls st_m_seNot4 R G) {σ : ab_SG} (h : sp_m_seOne 4 [(2, 93, 0)] σ (fun rv σ2 => G 4 [some (2, 93, 0)] (rv.toList ++ []) σ2)) : G 0 [some (2, 93, 0)] [] σ := fw_on hG [4, 21] 200 h
theorem fs_m_seNot4_4 {G : fw_K} {R : fw_KR} (hG : fw_cls st_m_seNot4 R G) {b0 : Int} {σ : ab_SG} (h : (fw_c b0 ≠ 0 → sp_m_saysOne [(2, 93, 0), (0, 0, 1), (0, 0, σ 93 62), (0, 0, 0), (0, 0, 0)] σ (fun rv σ2 => G 21 [some (2, 93, 0)] (rv.toList ++ [(2, 93, 0)]) σ2)) ∧ (fw_c b0 = 0 → (0 ≤ fw_c 0 ∧ fw_c 0 ≤ 1) ∧ R (some (0, 0, 0)) σ)) : G 4 [some (2, 93, 0)] [(0, 0, b0)] σ := fw_on hG [4, 21] 200 h
theorem fs_m_seNot4_21 {G : fw_K} {R : fw_KR} (hG : fw_cls st_m_seNot4 R G) {b0 : Int} {σ : ab_SG} (h : (0 ≤ fw_c 1 ∧ fw_c 1 ≤ 1) ∧ R (some (0, 0, 1)) (ab_ups σ 93 62 (fw_c b0))) : G 21 [some (2, 93, 0)] [(0, 0, b0), (2, 93, 0)] σ := fw_on hG [4, 21] 200 h
section
variable {l : Launch} {cy : Nat → ClassId} {ad wr cr : Nat → Nat} {D : va_G}
theorem fm_m_seOne4 (hinj : nn_inj ad) : fw_H l cy ad wr cr D 344 21 (sp_m_seOne 4) := fw_mk hinj (⟨"NameNotesModel", "readOne", "()Z"⟩, prog_14_method_142_code, 4, (Option.some Jvm.ClassFile.FieldType.boolean), 0, true, 1) rfl rfl nn_KI20_ok nn_KJ20_ok nn_PF20_ok nn_PS20_ok (by decide +kernel) rfl rfl (List.forall_mem_cons.mpr ⟨fw_row nn_PM20_ok (x := 168) (k := 0) (mn := 221) (np := 1) (ob := true) (ci := 11) (⟨"NameNotesModel", "bad", "(I)Z"⟩, prog_14_method_23_code, 2, (Option.some Jvm.ClassFile.FieldType.boolean), 1, true, 1) rfl (by decide +kernel) rfl rfl (by decide) (fun _ => ⟨_, _, rfl⟩) (fm_m_bad hinj), (List.forall_mem_cons.mpr ⟨fw_row nn_PM20_ok (x := 182) (k := 0) (mn := 212) (np := 0) (ob := true) (ci := 11) (⟨"NameNotesModel", "go", "()V"⟩, prog_14_method_17_code, 5, (Option.none : Option Jvm.ClassFile.FieldType), 0, true, 4) rfl (by decide +kernel) rfl rfl (by decide) (fun _ => ⟨_, _, rfl⟩) (fm_m_go hinj), (List.forall_mem_cons.mpr ⟨fw_row nn_PM20_ok (x := 185) (k := 0) (mn := 236) (np := 1) (ob := true) (ci := 11) (⟨"NameNotesModel", "isSign", "(I)Z"⟩, prog_14_method_21_code, 2, (Option.some Jvm.ClassFile.FieldType.boolean), 1, true, 1) rfl (by decide +kernel) rfl rfl (by decide) (fun _ => ⟨_, _, rfl⟩) (fm_m_isSign hinj), (List.forall_mem_cons.mpr ⟨fw_row nn_PM20_ok (x := 225) (k := 0) (mn := 217) (np := 1) (ob := true) (ci := 11) (⟨"NameNotesModel", "isWord", "(I)Z"⟩, prog_14_method_20_code, 2, (Option.some Jvm.ClassFile.FieldType.boolean), 1, true, 1) rfl (by decide +kernel) rfl rfl (by decide) (fun _ => ⟨_, _, rfl⟩) (fm_m_isWord hinj), (List.forall_mem_cons.mpr ⟨fw_row nn_PM20_ok (x := 261) (k := 0) (mn := 240) (np := 0) (ob := true) (ci := 11) (⟨"NameNotesModel", "tunes", "()I"⟩, prog_14_method_41_code, 1, (Option.some Jvm.ClassFile.FieldType.int), 0, true, 0) rfl (by decide +kernel) rfl rfl (by decide) (fun _ => ⟨_, _, rfl⟩) (fm_m_tunes hinj), (List.forall_mem_cons.mpr ⟨fw_row nn_PM20_ok (x := 510) (k := 0) (mn := 345) (np := 0) (ob := true) (ci := 11) (⟨"NameNotesModel", "readBracket", "()Z"⟩, prog_14_method_144_code, 1, (Option.some Jvm.ClassFile.FieldType.boolean), 0, true, 1) rfl (by decide +kernel) rfl rfl (by decide) (fun _ => ⟨_, _, rfl⟩) (fm_m_seBr3 hinj), (List.forall_mem_cons.mpr ⟨fw_row nn_PM20_ok (x := 513) (k := 0) (mn := 346) (np := 0) (ob := true) (ci := 11) (⟨"NameNotesModel", "readNot", "()Z"⟩, prog_14_method_143_code, 1, (Option.some Jvm.ClassFile.FieldType.boolean), 0, true, 1) rfl (by decide +kernel) rfl rfl (by decide) (fun _ => ⟨_, _, rfl⟩) (fm_m_seNot3 hinj), (List.forall_mem_cons.mpr ⟨fw_row nn_PM20_ok (x := 516) (k := 0) (mn := 348) (np := 3) (ob := true) (ci := 11) (⟨"NameNotesModel", "readOf", "(III)Z"⟩, prog_14_method_145_code, 5, (Option.some Jvm.ClassFile.FieldType.boolean), 3, true, 1) rfl (by decide +kernel) rfl rfl (by decide) (fun _ => ⟨_, _, rfl⟩) (fm_m_seOf hinj), (List.forall_mem_cons.mpr ⟨fw_row nn_PM20_ok (x := 519) (k := 0) (mn := 349) (np := 1) (ob := true) (ci := 11) (⟨"NameNotesModel", "readCompare", "(I)Z"⟩, prog_14_method_146_code, 3, (Option.some Jvm.ClassFile.FieldType.boolean), 1, true, 1) rfl (by decide +kernel) rfl rfl (by decide) (fun _ => ⟨_, _, rfl⟩) (fm_m_seCmp hinj), (fun _ h => absurd h List.not_mem_nil)⟩)⟩)⟩)⟩)⟩)⟩)⟩)⟩)⟩) (fun as σ K h => by
  obtain ⟨A, e, p, o, z, rfl, ⟨hN, hm, hs, ho⟩, h0, h1⟩ := h
  have c16 : fw_c 16 = 16 := fw_s (by decide) (by decide)
  have c20 : fw_c 20 = 20 := fw_s (by decide) (by decide)
  have c8 : fw_c 8 = 8 := fw_s (by decide) (by decide)
  have c60 : fw_c (σ 93 60) = (o : Int) := by rw [hs.1]; exact fw_s (by omega) (by omega)
  have c61 : fw_c (σ 93 61) = ((8 - 4 : Nat) : Int) := by rw [hs.2.1]; exact fw_s (by decide) (by decide)
  have u0 : ∀ {X : Prop}, fw_c 0 ≠ 0 → X := fun z => absurd fw_c0 z
  have u1 : ∀ {X : Prop}, fw_c 1 = 0 → X := fun z => absurd (fw_c1.symm.trans z) (by decide)
  have n40 : (tk e p).1 = 40 → ¬ (9 ≤ tw e p ∧ tw e p ≤ 16) := fun z y => by
    have := tw_k (e := e) (p := p) (by omega)
    omega
  refine ⟨rfl, fun G hG => ?_⟩
  -- too many, too deep
  have g64 : sn_st e p → sn_one A e 4 o p = (4, ev_st e p, o, p) → ∀ (o1 o3 : Option ab_AV) (w : Int), G 64 [some (2, 93, 0), o1, some (0, 0, w), o3] [] σ := fun y en o1 o3 w => by
    rw [en] at h0
    refine fs_m_seOne4_64 hG (mp_bad hm.1 (by decide) (fun σ' hM h10 h11 => fs_m_seOne4_69 hG ⟨fw_01, h0 (show (4 : Int) ≠ 0 by decide) σ' (ev_up hM (by decide)) ?_ h11⟩))
    have k : ¬ σ 93 7 = 1 := fun q => by
      have g := (mg_kind hm.1).2.2.1.mp q
      rcases y with y | y
      · omega
      · have := tw_k (e := e) (p := p) (by omega)
        omega
    rw [h10, if_neg k]
  have g46 : ∀ (b w : Int) (o3 : Option ab_AV), sn_st e p → ((b = 1 ∧ (tk e p).1 = 40) ∨ (b = 0 ∧ (tk e p).1 ≠ 40 ∧ w = tw e p)) → (0 ≤ w ∧ w ≤ 17) → G 46 [some (2, 93, 0), some (0, 0, b), some (0, 0, w), o3] [] σ := by
    intro b w o3 y hb hw
    refine fs_m_seOne4_46 hG ?_
    rw [c60, c61, c20, c8]
    refine ⟨fun q => g64 y ?_ _ o3 w, fun q => ⟨fun _ => ?_, fun q2 => absurd q2 (by decide)⟩⟩
    · rw [show sn_one A e 4 o p = _ from sn_one_s A e 3 o p, if_neg (fun u => u y), if_pos (by omega)]
    have en : sn_one A e 4 o p = _ := sn_one_s A e 3 o p
    rw [if_neg (fun u => u y), if_neg (by omega)] at en
    have ln : sl_one A e 4 o p = _ := sl_one_s A e 3 o p
    have co : fw_c (σ 93 60 + 1) = ((o + 1 : Nat) : Int) := by rw [hs.1]; exact fw_s (x := (o : Int) + 1) (by omega) (by omega)
    have cd : fw_c (σ 93 61 + 1) = ((8 - 3 : Nat) : Int) := by rw [hs.2.1]; exact fw_s (x := ((8 - 4 : Nat) : Int) + 1) (by decide) (by decide)
    rw [co, cd]
    have hm1 : mt_is (ab_ups (ab_ups σ 93 60 ((o + 1 : Nat) : Int)) 93 61 ((8 - 3 : Nat) : Int)) e p := mt_ups (mt_ups hm (Or.inr ⟨rfl, by decide⟩)) (Or.inr ⟨rfl, by decide⟩)
    have s1 : sm_is (ab_ups (ab_ups σ 93 60 ((o + 1 : Nat) : Int)) 93 61 ((8 - 3 : Nat) : Int)) (o + 1) (8 - 3) (z + 2) := ⟨(ab_ups_ne (by decide)).trans ab_ups_eq, ab_ups_eq, by rw [ab_ups_ne (by decide), ab_ups_ne (by decide)]; have := hs.2.2; omega⟩
    have M1 : ab_okM sm_M σ (ab_ups (ab_ups σ 93 60 ((o + 1 : Nat) : Int)) 93 61 ((8 - 3 : Nat) : Int)) := fw_okM_ups (fw_okM_ups (fw_okM_refl _ _) (by decide)) (by decide)
    have Q1 : gq σ (ab_ups (ab_ups σ 93 60 ((o + 1 : Nat) : Int)) 93 61 ((8 - 3 : Nat) : Int)) := gq_tr (gq_k (M := [(93, 60)]) okM_one (by decide)) (gq_k (M := [(93, 61)]) okM_one (by decide))
    generalize ab_ups (ab_ups σ 93 60 ((o + 1 : Nat) : Int)) 93 61 ((8 - 3 : Nat) : Int) = σ1 at hm1 s1 M1 Q1 ⊢
    refine mt_go hm1 (fun σ2 N2 hm2 => fs_m_seOne4_94 hG ?_)
    have q2 : gq σ σ2 := gq_tr Q1 (gq_k N2 (by decide))
    have M2 : ab_okM sm_M σ σ2 := ev_tr M1 (ev_up N2 (by decide))
    have s2 : sm_is σ2 (o + 1) (8 - 3) (z + 2) := sm_k s1 N2 (by decide)
    have N2' : NM σ2 A := sm_NM M2 hN
    have no : ∀ r : sn_T, sn_one A e 4 o p = r → r.1 ≠ 0 → ∀ σ' : ab_SG, ab_okM sm_M σ2 σ' → σ' 93 10 = r.1 → σ' 93 11 = r.2.1 → ∀ o1 : Option ab_AV, G 194 [some (2, 93, 0), o1, some (0, 0, w), some (0, 0, 0)] [] σ' := fun r er q σ' M a b o1 => by
      rw [er] at h0
      exact fs_m_seOne4_194 hG ⟨fw_01, h0 q _ (fw_okM_ups (ev_tr M2 M) (by decide)) ((ab_ups_ne (by decide)).trans a) ((ab_ups_ne (by decide)).trans b)⟩
    have ok : ∀ (r : sn_T) (L : sl_T), sn_one A e 4 o p = r → sl_one A e 4 o p = L → r.1 = 0 → ∀ (σ' : ab_SG) (zz h9 : Nat), z + 1 ≤ zz → h9 ≤ r.2.2.1 - o → ab_okM sm_M σ2 σ' → mt_is σ' e r.2.2.2 → sm_is σ' r.2.2.1 (8 - 3) zz → sr σ2 σ' h9 L → ∀ o1 : Option ab_AV, G 194 [some (2, 93, 0), o1, some (0, 0, w), some (0, 0, 1)] [] σ' := fun r L er el q σ' zz h9 hz hh M hm' s' R o1 => by
      rw [er, el] at h1
      have cv : fw_c (σ' 93 61 - 1) = ((8 - 4 : Nat) : Int) := by rw [s'.2.1]; exact fw_s (x := ((8 - 3 : Nat) : Int) - 1) (by decide) (by decide)
      refine fs_m_seOne4_194 hG ⟨fw_11, ?_⟩
      rw [cv]
      exact h1 q _ (fw_okM_ups (ev_tr M2 M) (by decide)) (mt_ups hm' (Or.inr ⟨rfl, by decide⟩)) ⟨(ab_ups_ne (by decide)).trans s'.1, ab_ups_eq, by rw [ab_ups_ne (by decide)]; have := s'.2.2; omega⟩ (sr_k (M := [(93, 61)]) (sr_l q2 hh R) okM_one (by decide))
    have cw : fw_c w = w := fw_s (by omega) (by omega)
    have c9 : fw_c 9 = 9 := fw_s (by decide) (by decide)
    have c10 : fw_c 10 = 10 := fw_s (by decide) (by decide)
    have c11 : fw_c 11 = 11 := fw_s (by decide) (by decide)
    have c12 : fw_c 12 = 12 := fw_s (by decide) (by decide)
    have c2 : fw_c 2 = 2 := fw_s (by decide) (by decide)
    have t1 : (fw_c 1).toNat = 1 := by rw [fw_c1]; rfl
    have t2 : (fw_c 2).toNat = 2 := by rw [c2]; rfl
    have nn := hN.1
    rw [cw, c9, c10, c11, c12, t1, t2, c2, fw_c1]
    refine ⟨fun q5 => ?_, fun q5 => ?_⟩
    · obtain ⟨n4, ew⟩ : (tk e p).1 ≠ 40 ∧ w = tw e p := by
        rcases hb with ⟨b1, -⟩ | ⟨-, k⟩
        · rw [b1] at q5
          exact u1 q5
        · exact k
      rw [if_neg n4] at en ln
      refine ⟨fun w9 => ⟨fun w10 => ⟨fun w11 => ⟨fun w12 => ?_, fun w12 => ⟨rfl, fs_m_seOne4_181 hG ?_⟩⟩, fun w11 => ⟨by decide, ?_⟩⟩, fun w10 => ⟨by decide, ?_⟩⟩, fun w9 => ?_⟩
      · rw [if_neg (by omega), if_neg (by omega), if_neg (by omega), if_neg (by omega)] at en ln
        have wk : 13 ≤ tw e p ∧ tw e p ≤ 16 := by
          have y2 := y.resolve_left n4
          omega
        rw [sk_13 wk, ← ew] at ln
        rw [← ew] at wk
        exact ⟨e, tn e p, o + 1, 8 - 3, z + 1, _, rfl, hm2, ⟨s2, by omega⟩, wk, fun q σ' M a b => fs_m_seOne4_193 hG (no _ en q σ' M a b _), fun q σ' M a b c => fs_m_seOne4_193 hG (ok _ _ en ln q σ' (z + 1) 1 (Nat.le_refl _) (by rw [sn_ms_0 q]; show 1 ≤ o + 1 - o; omega) M a b c _)⟩
      · rw [if_neg (by omega), if_neg (by omega), if_neg (by omega), if_pos (by omega), show (5 : Int) = w - 7 by omega] at ln
        rw [if_neg (by omega), if_neg (by omega), if_neg (by omega), if_pos (by omega)] at en
        rw [(NM_n N2').1]
        exact ⟨A, e, tn e p, o + 1, 8 - 3, z + 1, 0, 57, _, _, rfl, hm2, ⟨s2, by omega⟩, rm_11 N2', ⟨nn.1.1, by omega, by omega⟩, ⟨by omega, by omega⟩, fun q σ' M a b => fs_m_seOne4_184 hG (no _ en q σ' M a b _), fun q σ' M a b c => fs_m_seOne4_184 hG (ok _ _ en ln q σ' (z + 1) 1 (Nat.le_refl _) (by rw [(sn_nm_0 q).2]; show 1 ≤ o + 1 - o; omega) M a b c _)⟩
      · rw [if_neg (by omega), if_neg (by omega), if_pos (by omega), show (4 : Int) = w - 7 by omega] at ln
        rw [if_neg (by omega), if_neg (by omega), if_pos (by omega)] at en
        rw [(NM_n N2').2.2]
        exact ⟨A, e, tn e p, o + 1, 8 - 3, z + 1, 15, 59, _, _, rfl, hm2, ⟨s2, by omega⟩, rm_13 N2', ⟨nn.2.2.1.1, by omega, by omega⟩, ⟨by omega, by omega⟩, fun q σ' M a b => fs_m_seOne4_164 hG (no _ en q σ' M a b _), fun q σ' M a b c => fs_m_seOne4_164 hG (ok _ _ en ln q σ' (z + 1) 1 (Nat.le_refl _) (by rw [(sn_nm_0 q).2]; show 1 ≤ o + 1 - o; omega) M a b c _)⟩
      · rw [if_neg (by omega), if_pos (by omega), show (3 : Int) = w - 7 by omega] at ln
        rw [if_neg (by omega), if_pos (by omega)] at en
        rw [(NM_n N2').2.1]
        exact ⟨A, e, tn e p, o + 1, 8 - 3, z + 1, 9, 58, _, _, rfl, hm2, ⟨s2, by omega⟩, rm_12 N2', ⟨nn.2.1.1, by omega, by omega⟩, ⟨by omega, by omega⟩, fun q σ' M a b => fs_m_seOne4_141 hG (no _ en q σ' M a b _), fun q σ' M a b c => fs_m_seOne4_141 hG (ok _ _ en ln q σ' (z + 1) 1 (Nat.le_refl _) (by rw [(sn_nm_0 q).2]; show 1 ≤ o + 1 - o; omega) M a b c _)⟩
      · rw [if_pos (by omega)] at en ln
        exact ⟨A, e, tn e p, o + 1, z + 2, rfl, ⟨N2', hm2, s2, by omega⟩, fun q σ' M a b => fs_m_seOne4_118 hG (no _ en q σ' M a b _), fun q σ' M a b c => fs_m_seOne4_118 hG (ok _ _ en ln q σ' (z + 2) _ (by omega) (by have g := (sn_one_gr A e 3 (o + 1) (tn e p) (by omega) q).1; omega) M a b c _)⟩
    · have n4 : (tk e p).1 = 40 := by
        rcases hb with ⟨-, k⟩ | ⟨b0, -⟩
        · exact k
        · rw [b0] at q5
          exact u0 q5
      rw [if_pos n4] at en ln
      exact ⟨A, e, tn e p, o + 1, z + 2, rfl, ⟨N2', hm2, s2, by omega⟩, fun q σ' M a b => fs_m_seOne4_104 hG (no _ en q σ' M a b _), fun q σ' M a b c => fs_m_seOne4_104 hG (ok _ _ en ln q σ' (z + 3) _ (by omega) (by omega) M a b c _)⟩
  have g30 : ∀ (b w : Int) (o3 : Option ab_AV), ((b = 1 ∧ (tk e p).1 = 40) ∨ (b = 0 ∧ (tk e p).1 ≠ 40)) → ((w = tw e p ∧ 9 ≤ w ∧ w ≤ 16) ∨ (w = 17 ∧ ¬ (9 ≤ tw e p ∧ tw e p ≤ 16))) → G 30 [some (2, 93, 0), some (0, 0, b), some (0, 0, w), o3] [] σ := by
    intro b w o3 hb hw
    have cw : fw_c w = w := fw_s (by omega) (by omega)
    refine fs_m_seOne4_30 hG ?_
    rw [cw, c16]
    refine ⟨fun q => ?_, fun q => ⟨fun q2 => ?_, fun q2 => ?_⟩⟩
    · rcases hb with ⟨b1, k⟩ | ⟨b0, -⟩
      · exact g46 b w o3 (Or.inl k) (Or.inl ⟨b1, k⟩) ⟨by omega, by omega⟩
      · rw [b0] at q
        exact u0 q
    · rcases hb with ⟨b1, -⟩ | ⟨b0, k⟩
      · rw [b1] at q
        exact u1 q
      · exact g46 b w o3 (Or.inr ⟨by omega, by omega⟩) (Or.inr ⟨b0, k, by omega⟩) ⟨by omega, by omega⟩
    · rcases hb with ⟨b1, -⟩ | ⟨b0, k⟩
      · rw [b1] at q
        exact u1 q
      · have ns : ¬ sn_st e p := fun y => by
          rcases y with y | y
          · exact k y
          · omega
        have en : sn_one A e 4 o p = (1, ev_st e p, o, p) := (sn_one_s A e 3 o p).trans (if_pos ns)
        rw [en] at h0
        refine mp_bad hm.1 (by decide) (fun σ' hM h10 h11 => fs_m_seOne4_45 hG ⟨fw_01, h0 (show (1 : Int) ≠ 0 by decide) σ' (ev_up hM (by decide)) ?_ h11⟩)
        rw [h10]
        split <;> rfl
  have lw : ∀ (f w : Nat) (b : Int) (o3 : Option ab_AV), w + f = 17 → 9 ≤ w → (∀ v : Nat, 9 ≤ v → v < w → tw e p ≠ (v : Int)) → ((b = 1 ∧ (tk e p).1 = 40) ∨ (b = 0 ∧ (tk e p).1 ≠ 40)) → G 10 [some (2, 93, 0), some (0, 0, b), some (0, 0, (w : Int)), o3] [] σ := by
    intro f
    induction f with
    | zero =>
      intro w b o3 hf h9 hv hb
      have ew : w = 17 := by omega
      subst ew
      refine fs_m_seOne4_10 hG ⟨fun _ => g30 b _ o3 hb (Or.inr ⟨rfl, fun y => ?_⟩), fun q => absurd q (by rw [c16]; decide)⟩
      have := hv (tw e p).toNat (by omega) (by omega)
      omega
    | succ f ih =>
      intro w b o3 hf h9 hv hb
      have cw : fw_c (w : Int) = (w : Int) := fw_s (by omega) (by omega)
      refine fs_m_seOne4_10 hG ⟨fun q => absurd q (by rw [c16, cw]; omega), fun _ => ⟨w, e, p, rfl, by omega, hm.1, ?_⟩⟩
      by_cases c : tw e p = (w : Int)
      · rw [fw_bo_t c]
        exact fs_m_seOne4_21 hG ⟨fun _ => g30 b _ o3 hb (Or.inl ⟨c.symm, by omega, by omega⟩), u1⟩
      · rw [fw_bo_f c]
        refine fs_m_seOne4_21 hG ⟨u0, fun _ => ?_⟩
        have g := ih (w + 1) b o3 (by omega) (by omega) (fun v h1 h2 => by
          by_cases y : v = w
          · rw [y]
            exact c
          · exact hv v h1 (by omega)) hb
        rw [show ((w + 1 : Nat) : Int) = (w : Int) + 1 from rfl] at g
        exact g
  refine fs_m_seOne4_0 hG ⟨40, e, p, rfl, Or.inr (Or.inr (Or.inl rfl)), hm.1, ?_⟩
  by_cases c : (tk e p).1 = 40
  · rw [fw_bo_t c]
    exact fs_m_seOne4_6 hG (lw 8 9 1 _ rfl (by decide) (fun v h1 h2 => by omega) (Or.inl ⟨rfl, c⟩))
  · rw [fw_bo_f c]
    exact fs_m_seOne4_6 hG (lw 8 9 0 _ rfl (by decide) (fun v h1 h2 => by omega) (Or.inr ⟨rfl, c⟩)))
theorem fm_m_seNot4 (hinj : nn_inj ad) : fw_H l cy ad wr cr D 346 22 (sp_m_seNot 4) := fw_mk hinj (⟨"NameNotesModel", "readNot", "()Z"⟩, prog_14_method_143_code, 1, (Option.some Jvm.ClassFile.FieldType.boolean), 0, true, 1) rfl rfl nn_KI20_ok nn_KJ20_ok nn_PF20_ok nn_PS20_ok (by decide +kernel) rfl rfl (List.forall_mem_cons.mpr ⟨fw_row nn_PM20_ok (x := 498) (k := 0) (mn := 347) (np := 4) (ob := true) (ci := 11) (⟨"NameNotesModel", "saysOne", "(IIII)I"⟩, prog_14_method_139_code, 6, (Option.some Jvm.ClassFile.FieldType.int), 4, true, 0) rfl (by decide +kernel) rfl rfl (by decide) (fun _ => ⟨_, _, rfl⟩) (fm_m_saysOne hinj), (List.forall_mem_cons.mpr ⟨fw_row nn_PM20_ok (x := 501) (k := 0) (mn := 344) (np := 0) (ob := true) (ci := 11) (⟨"NameNotesModel", "readOne", "()Z"⟩, prog_14_method_142_code, 4, (Option.some Jvm.ClassFile.FieldType.boolean), 0, true, 1) rfl (by decide +kernel) rfl rfl (by decide) (fun _ => ⟨_, _, rfl⟩) (fm_m_seOne4 hinj), (fun _ h => absurd h List.not_mem_nil)⟩)⟩) (fun as σ K h => by
  obtain ⟨A, e, p, o, z, rfl, hp, h0, h1⟩ := h
  have u0 : ∀ {X : Prop}, fw_c 0 ≠ 0 → X := fun z => absurd fw_c0 z
  have u1 : ∀ {X : Prop}, fw_c 1 = 0 → X := fun z => absurd (fw_c1.symm.trans z) (by decide)
  refine ⟨rfl, fun G hG => fs_m_seNot4_0 hG ⟨A, e, p, o, z, rfl, hp, fun q σ' M a b => fs_m_seNot4_4 hG ⟨u0, fun _ => ⟨fw_01, h0 q σ' M a b⟩⟩, fun q σ1 M1 hm1 s1 R1 => fs_m_seNot4_4 hG ⟨fun _ => ⟨_, _, _, _, rfl, ⟨s1.2.2.1, ?_⟩, fun v σ2 M2 e59 ev hd => fs_m_seNot4_21 hG ⟨fw_11, ?_⟩⟩, u1⟩⟩⟩
  · have gr := (sn_one_gr A e 4 o p hp.2.2.2 q).2
    have := s1.2.2.2
    omega
  · exact h1 q _ (fw_okM_ups (ev_tr M1 (ev_up M2 (by decide))) (by decide)) (mt_ups (mt_M hm1 M2 (by decide) (by decide)) (Or.inr ⟨rfl, by decide⟩)) (sm_k (M := [(93, 62)]) (sm_s s1 M2 e59) okM_one (by decide)) (by
      have gr := (sn_one_gr A e 4 o p hp.2.2.2 q).2
      have b59 := s1.2.2
      refine sr_top (gq_tr R1.1 (ne_g e59 hd)) (by omega) ?_
      rw [ev]
      exact rp_not ⟨b59.1, by omega⟩ R1.2 e59 hd))
theorem fm_m_seAnd4 (hinj : nn_inj ad) : fw_H l cy ad wr cr D 343 22 (sp_m_seAnd 4) := fw_mk hinj (⟨"NameNotesModel", "readAnd", "()Z"⟩, prog_14_method_141_code, 2, (Option.some Jvm.ClassFile.FieldType.boolean), 0, true, 1) rfl rfl nn_KI20_ok nn_KJ20_ok nn_PF20_ok nn_PS20_ok (by decide +kernel) rfl rfl (List.forall_mem_cons.mpr ⟨fw_row nn_PM20_ok (x := 182) (k := 0) (mn := 212) (np := 0) (ob := true) (ci := 11) (⟨"NameNotesModel", "go", "()V"⟩, prog_14_method_17_code, 5, (Option.none : Option Jvm.ClassFile.FieldType), 0, true, 4) rfl (by decide +kernel) rfl rfl (by decide) (fun _ => ⟨_, _, rfl⟩) (fm_m_go hinj), (List.forall_mem_cons.mpr ⟨fw_row nn_PM20_ok (x := 225) (k := 0) (mn := 217) (np := 1) (ob := true) (ci := 11) (⟨"NameNotesModel", "isWord", "(I)Z"⟩, prog_14_method_20_code, 2, (Option.some Jvm.ClassFile.FieldType.boolean), 1, true, 1) rfl (by decide +kernel) rfl rfl (by decide) (fun _ => ⟨_, _, rfl⟩) (fm_m_isWord hinj), (List.forall_mem_cons.mpr ⟨fw_row nn_PM20_ok (x := 498) (k := 0) (mn := 347) (np := 4) (ob := true) (ci := 11) (⟨"NameNotesModel", "saysOne", "(IIII)I"⟩, prog_14_method_139_code, 6, (Option.some Jvm.ClassFile.FieldType.int), 4, true, 0) rfl (by decide +kernel) rfl rfl (by decide) (fun _ => ⟨_, _, rfl⟩) (fm_m_saysOne hinj), (List.forall_mem_cons.mpr ⟨fw_row nn_PM20_ok (x := 501) (k := 0) (mn := 344) (np := 0) (ob := true) (ci := 11) (⟨"NameNotesModel", "readOne", "()Z"⟩, prog_14_method_142_code, 4, (Option.some Jvm.ClassFile.FieldType.boolean), 0, true, 1) rfl (by decide +kernel) rfl rfl (by decide) (fun _ => ⟨_, _, rfl⟩) (fm_m_seOne4 hinj), (fun _ h => absurd h List.not_mem_nil)⟩)⟩)⟩)⟩) (fun as σ K h => by
  obtain ⟨A, e, p, o, z, g, rfl, ⟨hN, hm, hs, ho⟩, hg, h⟩ := h
  obtain ⟨h0, h1⟩ := h _ rfl
  have u0 : ∀ {X : Prop}, fw_c 0 ≠ 0 → X := fun z => absurd fw_c0 z
  have u1 : ∀ {X : Prop}, fw_c 1 = 0 → X := fun z => absurd (fw_c1.symm.trans z) (by decide)
  have og := sn_one_gr A e 4
  refine ⟨rfl, fun G hG => fs_m_seAnd4_0 hG ⟨A, e, p, o, z, rfl, ⟨hN, hm, hs, ho⟩, fun q σ' M a b => fs_m_seAnd4_4 hG ⟨u0, fun _ => ⟨fw_01, ?_⟩⟩, fun q σ1 M1 hm1 s1 R1 => fs_m_seAnd4_4 hG ⟨fun _ => ?_, u1⟩⟩⟩
  · rw [if_pos q] at h0
    exact h0 q σ' M a b
  · rw [if_neg (fun u => u q)] at h0 h1
    have gr := og o p ho q
    have loop : ∀ (f g1 o1 p1 : Nat) (τ : ab_SG) (a1 : Int) (LA : sl_T), 20 < f + o1 → 21 ≤ g1 + o1 → o + 1 ≤ o1 → o1 ≤ 20 → ab_okM sm_M σ τ → mt_is τ e p1 → sm_is τ o1 (8 - 4) (z + 1) → gq σ τ → rp (τ 121) (τ 93 59) (o1 - o) a1 LA → (∀ w : Bool, sl_one A e 4 o p ++ sl_lp (sn_one A e 4) (sl_one A e 4) e g w (sn_one A e 4 o p).2.2.1 (sn_one A e 4 o p).2.2.2 = LA ++ sl_lp (sn_one A e 4) (sl_one A e 4) e g1 w o1 p1) → sn_lp (sn_one A e 4) e g (sn_one A e 4 o p).2.2.1 (sn_one A e 4 o p).2.2.2 = sn_lp (sn_one A e 4) e g1 o1 p1 → G 14 [some (2, 93, 0), some (0, 0, a1)] [] τ := by
      intro f
      induction f with
      | zero =>
        intro g1 o1 p1 τ a1 LA hf _ _ h20 _ _ _ _ _ _ _
        omega
      | succ f ih =>
        intro g1 o1 p1 τ a1 LA hf hg1 ho1 h20 M hm' s' Q R hw hr
        refine fs_m_seAnd4_14 hG ⟨8, e, p1, rfl, by decide, hm'.1, ?_⟩
        show G 20 _ [(0, 0, fw_bo (tw e p1 = ((8 : Nat) : Int)))] τ
        by_cases c : tw e p1 = ((8 : Nat) : Int)
        · rw [fw_bo_t c]
          replace c : tw e p1 = 8 := c
          obtain ⟨g2, rfl⟩ : ∃ g2, g1 = g2 + 1 := ⟨g1 - 1, by omega⟩
          rw [sn_lps, if_pos (Or.inl c)] at hr
          refine fs_m_seAnd4_20 hG ⟨u1, fun _ => mt_go hm' (fun τ2 N2 hm2 => fs_m_seAnd4_27 hG ?_)⟩
          have M2 : ab_okM sm_M σ τ2 := ev_tr M (ev_up N2 (by decide))
          refine ⟨A, e, tn e p1, o1, z + 1, rfl, ⟨sm_NM M2 hN, hm2, sm_k s' N2 (by decide), h20⟩, fun q2 σ' M' a b => fs_m_seAnd4_31 hG ⟨u0, fun _ => ⟨fw_01, ?_⟩⟩, fun q2 τ3 M3 hm3 s3 R3 => fs_m_seAnd4_31 hG ⟨fun _ => ?_, u1⟩⟩
          · rw [if_pos q2] at hr
            rw [hr] at h0
            exact h0 q2 σ' (ev_tr M2 M') a b
          · rw [if_neg (fun u => u q2)] at hr
            have gr2 := og o1 (tn e p1) h20 q2
            have b59 := s3.2.2
            have Q3 : gq τ τ3 := gq_tr (gq_k N2 (by decide)) R3.1
            exact ⟨_, _, _, _, rfl, ⟨s3.2.2.1, by have := s3.2.2.2; omega⟩, fun v τ4 M4 e59 ev hd => fs_m_seAnd4_47 hG (ih g2 _ _ τ4 v (LA ++ (sl_one A e 4 o1 (tn e p1) ++ [(1, 0)])) (by omega) (by omega) (by omega) gr2.2 (ev_tr (ev_tr M2 M3) (ev_up M4 (by decide))) (mt_M hm3 M4 (by decide) (by decide)) (sm_s s3 M4 e59) (gq_tr (gq_tr Q Q3) (ne_g e59 hd)) (by
              rw [ev]
              exact rp_and (h := (sn_one A e 4 o1 (tn e p1)).2.2.1 - o) ⟨b59.1, by omega⟩ (rp_g Q3 (Nat.le_refl _) R) R3.2 e59 hd (by omega) (by omega)) (fun w => by
              rw [hw w, sl_lps, if_pos c, List.append_assoc, List.append_assoc]) hr)⟩
        · rw [fw_bo_f c]
          exact fs_m_seAnd4_20 hG ⟨fun _ => ⟨fw_11, h1 g1 o1 p1 _ hr c hg1 ho1 h20 (fw_okM_ups M (by decide)) (mt_ups hm' (Or.inr ⟨rfl, by decide⟩)) (sm_k (M := [(93, 62)]) s' okM_one (by decide)) LA hw (sr_top Q (by have := s'.2.2; omega) R)⟩, u0⟩
    exact loop 21 g _ _ σ1 _ _ (by omega) (by omega) gr.1 gr.2 M1 hm1 s1 R1.1 R1.2 (fun _ => rfl) rfl)
theorem fm_m_seOr4 (hinj : nn_inj ad) : fw_H l cy ad wr cr D 342 23 (sp_m_seOr 4) := fw_mk hinj (⟨"NameNotesModel", "readOr", "()Z"⟩, prog_14_method_140_code, 2, (Option.some Jvm.ClassFile.FieldType.boolean), 0, true, 1) rfl rfl nn_KI20_ok nn_KJ20_ok nn_PF20_ok nn_PS20_ok (by decide +kernel) rfl rfl (List.forall_mem_cons.mpr ⟨fw_row nn_PM20_ok (x := 182) (k := 0) (mn := 212) (np := 0) (ob := true) (ci := 11) (⟨"NameNotesModel", "go", "()V"⟩, prog_14_method_17_code, 5, (Option.none : Option Jvm.ClassFile.FieldType), 0, true, 4) rfl (by decide +kernel) rfl rfl (by decide) (fun _ => ⟨_, _, rfl⟩) (fm_m_go hinj), (List.forall_mem_cons.mpr ⟨fw_row nn_PM20_ok (x := 225) (k := 0) (mn := 217) (np := 1) (ob := true) (ci := 11) (⟨"NameNotesModel", "isWord", "(I)Z"⟩, prog_14_method_20_code, 2, (Option.some Jvm.ClassFile.FieldType.boolean), 1, true, 1) rfl (by decide +kernel) rfl rfl (by decide) (fun _ => ⟨_, _, rfl⟩) (fm_m_isWord hinj), (List.forall_mem_cons.mpr ⟨fw_row nn_PM20_ok (x := 492) (k := 0) (mn := 343) (np := 0) (ob := true) (ci := 11) (⟨"NameNotesModel", "readAnd", "()Z"⟩, prog_14_method_141_code, 2, (Option.some Jvm.ClassFile.FieldType.boolean), 0, true, 1) rfl (by decide +kernel) rfl rfl (by decide) (fun _ => ⟨_, _, rfl⟩) (fm_m_seAnd4 hinj), (List.forall_mem_cons.mpr ⟨fw_row nn_PM20_ok (x := 498) (k := 0) (mn := 347) (np := 4) (ob := true) (ci := 11) (⟨"NameNotesModel", "saysOne", "(IIII)I"⟩, prog_14_method_139_code, 6, (Option.some Jvm.ClassFile.FieldType.int), 4, true, 0) rfl (by decide +kernel) rfl rfl (by decide) (fun _ => ⟨_, _, rfl⟩) (fm_m_saysOne hinj), (fun _ h => absurd h List.not_mem_nil)⟩)⟩)⟩)⟩) (fun as σ K h => by
  obtain ⟨A, e, p, o, z, rfl, hp, h0, h1⟩ := h
  have u0 : ∀ {X : Prop}, fw_c 0 ≠ 0 → X := fun z => absurd fw_c0 z
  have u1 : ∀ {X : Prop}, fw_c 1 = 0 → X := fun z => absurd (fw_c1.symm.trans z) (by decide)
  refine ⟨rfl, fun G hG => ?_⟩
  have loop : ∀ (f g1 o1 p1 : Nat) (τ : ab_SG) (a1 : Int) (LO : sl_T), 20 < f + o1 → 21 ≤ g1 + o1 → o + 1 ≤ o1 → o1 ≤ 20 → tw e p1 ≠ 8 → ab_okM sm_M σ τ → mt_is τ e p1 → sm_is τ o1 (8 - 4) (z + 1) → gq σ τ → rp (τ 121) (τ 93 59) (o1 - o) a1 LO → sl_cd (sn_one A e 4) (sl_one A e 4) e o p = LO ++ sl_lp (sn_one A e 4) (sl_one A e 4) e g1 false o1 p1 → sn_cd (sn_one A e 4) e o p = sn_lp (sn_one A e 4) e g1 o1 p1 → G 14 [some (2, 93, 0), some (0, 0, a1)] [] τ := by
    intro f
    induction f with
    | zero =>
      intro g1 o1 p1 τ a1 LO hf _ _ h20 _ _ _ _ _ _ _ _
      omega
    | succ f ih =>
      intro g1 o1 p1 τ a1 LO hf hg1 ho1 h20 c8 M hm' s' Q R hw hr
      obtain ⟨g2, rfl⟩ : ∃ g2, g1 = g2 + 1 := ⟨g1 - 1, by omega⟩
      rw [sn_lps] at hr
      rw [sl_lps, if_neg c8] at hw
      refine fs_m_seOr4_14 hG ⟨7, e, p1, rfl, by decide, hm'.1, ?_⟩
      show G 20 _ [(0, 0, fw_bo (tw e p1 = ((7 : Nat) : Int)))] τ
      by_cases c : tw e p1 = ((7 : Nat) : Int)
      · rw [fw_bo_t c]
        replace c : tw e p1 = 7 := c
        rw [if_pos (Or.inr c)] at hr
        rw [if_pos c] at hw
        refine fs_m_seOr4_20 hG ⟨u1, fun _ => mt_go hm' (fun τ2 N2 hm2 => fs_m_seOr4_27 hG ?_)⟩
        have M2 : ab_okM sm_M σ τ2 := ev_tr M (ev_up N2 (by decide))
        refine ⟨A, e, tn e p1, o1, z + 1, g2, rfl, ⟨sm_NM M2 hp.1, hm2, sm_k s' N2 (by decide), h20⟩, by omega, fun F eF => ⟨fun q σ' M' a b => fs_m_seOr4_31 hG ⟨u0, fun _ => ⟨fw_01, ?_⟩⟩, fun g3 o3 p3 τ3 e3 c3 hg3 ho3 h203 M3 hm3 s3 L3 w3 R3 => fs_m_seOr4_31 hG ⟨fun _ => ?_, u1⟩⟩⟩
        · rw [hr.trans eF.symm] at h0
          exact h0 q σ' (ev_tr M2 M') a b
        · have b59 := s3.2.2
          have Q3 : gq τ τ3 := gq_tr (gq_k N2 (by decide)) R3.1
          exact ⟨_, _, _, _, rfl, ⟨s3.2.2.1, by have := s3.2.2.2; omega⟩, fun v τ4 M4 e59 ev hd => fs_m_seOr4_47 hG (ih g3 o3 p3 τ4 v (LO ++ (L3 ++ [(2, 0)])) (by omega) hg3 (by omega) h203 c3 (ev_tr (ev_tr M2 M3) (ev_up M4 (by decide))) (mt_M hm3 M4 (by decide) (by decide)) (sm_s s3 M4 e59) (gq_tr (gq_tr Q Q3) (ne_g e59 hd)) (by
            rw [ev]
            exact rp_or (h := o3 - o) ⟨b59.1, by omega⟩ (rp_g Q3 (Nat.le_refl _) R) R3.2 e59 hd (by omega) (by omega)) (by
            have w4 := w3 true
            rw [sl_lp_t c3] at w4
            rw [hw, w4, List.append_assoc, List.append_assoc]
            rfl) ((hr.trans eF.symm).trans e3))⟩
      · rw [fw_bo_f c]
        replace c : tw e p1 ≠ 7 := c
        rw [if_neg (fun u => u.elim c8 c)] at hr
        rw [if_neg c] at hw
        rw [hr, hw] at h1
        exact fs_m_seOr4_20 hG ⟨fun _ => ⟨fw_11, h1 rfl _ (fw_okM_ups M (by decide)) (mt_ups hm' (Or.inr ⟨rfl, by decide⟩)) (sm_k (M := [(93, 62)]) s' okM_one (by decide)) (by
          rw [show fl false = [] from rfl, List.append_nil]
          exact sr_top Q (by have := s'.2.2; omega) R)⟩, u0⟩
  refine fs_m_seOr4_0 hG ⟨A, e, p, o, z, 20, rfl, hp, by omega, fun F eF => ⟨fun q σ' M a b => fs_m_seOr4_4 hG ⟨u0, fun _ => ⟨fw_01, ?_⟩⟩, fun g' o' p' σ1 eq c8 hg ho1 ho2 M1 hm1 s1 LA wA RA => fs_m_seOr4_4 hG ⟨fun _ => ?_, u1⟩⟩⟩
  · have ec : sn_cd (sn_one A e 4) e o p = F := eF.symm
    rw [ec] at h0
    exact h0 q σ' M a b
  · have ec : sn_cd (sn_one A e 4) e o p = F := eF.symm
    exact loop 21 g' o' p' σ1 _ LA (by omega) hg ho1 ho2 c8 M1 hm1 s1 RA.1 RA.2 (wA false) (ec.trans eq))
theorem fm_m_seBr4 (hinj : nn_inj ad) : fw_H l cy ad wr cr D 345 24 (sp_m_seBr 4) := fw_mk hinj (⟨"NameNotesModel", "readBracket", "()Z"⟩, prog_14_method_144_code, 1, (Option.some Jvm.ClassFile.FieldType.boolean), 0, true, 1) rfl rfl nn_KI20_ok nn_KJ20_ok nn_PF20_ok nn_PS20_ok (by decide +kernel) rfl rfl (List.forall_mem_cons.mpr ⟨fw_row nn_PM20_ok (x := 168) (k := 0) (mn := 221) (np := 1) (ob := true) (ci := 11) (⟨"NameNotesModel", "bad", "(I)Z"⟩, prog_14_method_23_code, 2, (Option.some Jvm.ClassFile.FieldType.boolean), 1, true, 1) rfl (by decide +kernel) rfl rfl (by decide) (fun _ => ⟨_, _, rfl⟩) (fm_m_bad hinj), (List.forall_mem_cons.mpr ⟨fw_row nn_PM20_ok (x := 182) (k := 0) (mn := 212) (np := 0) (ob := true) (ci := 11) (⟨"NameNotesModel", "go", "()V"⟩, prog_14_method_17_code, 5, (Option.none : Option Jvm.ClassFile.FieldType), 0, true, 4) rfl (by decide +kernel) rfl rfl (by decide) (fun _ => ⟨_, _, rfl⟩) (fm_m_go hinj), (List.forall_mem_cons.mpr ⟨fw_row nn_PM20_ok (x := 185) (k := 0) (mn := 236) (np := 1) (ob := true) (ci := 11) (⟨"NameNotesModel", "isSign", "(I)Z"⟩, prog_14_method_21_code, 2, (Option.some Jvm.ClassFile.FieldType.boolean), 1, true, 1) rfl (by decide +kernel) rfl rfl (by decide) (fun _ => ⟨_, _, rfl⟩) (fm_m_isSign hinj), (List.forall_mem_cons.mpr ⟨fw_row nn_PM20_ok (x := 522) (k := 0) (mn := 342) (np := 0) (ob := true) (ci := 11) (⟨"NameNotesModel", "readOr", "()Z"⟩, prog_14_method_140_code, 2, (Option.some Jvm.ClassFile.FieldType.boolean), 0, true, 1) rfl (by decide +kernel) rfl rfl (by decide) (fun _ => ⟨_, _, rfl⟩) (fm_m_seOr4 hinj), (fun _ h => absurd h List.not_mem_nil)⟩)⟩)⟩)⟩) (fun as σ K h => by
  obtain ⟨A, e, p, o, z, rfl, hp, h0, h1⟩ := h
  have u0 : ∀ {X : Prop}, fw_c 0 ≠ 0 → X := fun z => absurd fw_c0 z
  have u1 : ∀ {X : Prop}, fw_c 1 = 0 → X := fun z => absurd (fw_c1.symm.trans z) (by decide)
  refine ⟨rfl, fun G hG => fs_m_seBr4_0 hG ⟨A, e, p, o, z, rfl, hp, ?_⟩⟩
  generalize sn_cd (sn_one A e 4) e o p = r at h0 h1 ⊢
  refine ⟨fun q σ' M a b => fs_m_seBr4_4 hG ⟨u0, fun _ => ⟨fw_01, ?_⟩⟩, fun q σ1 M1 hm1 s1 R1 => fs_m_seBr4_4 hG ⟨fun _ => ⟨41, e, r.2.2.2, rfl, Or.inr (Or.inr (Or.inr rfl)), hm1.1, ?_⟩, u1⟩⟩
  · rw [show sn_br e r = r from if_pos q] at h0
    exact h0 q σ' M a b
  · show G 15 _ [(0, 0, fw_bo ((tk e r.2.2.2).1 = 41))] σ1
    by_cases c : (tk e r.2.2.2).1 = 41
    · rw [fw_bo_t c]
      have eb : sn_br e r = (0, 0, r.2.2.1, tn e r.2.2.2) := (if_neg (fun u => u q)).trans (if_neg (fun u => u c))
      rw [eb] at h1
      exact fs_m_seBr4_15 hG ⟨fun _ => mt_go hm1 (fun σ2 N2 hm2 => fs_m_seBr4_28 hG ⟨fw_11, h1 rfl σ2 (ev_tr M1 (ev_up N2 (by decide))) hm2 (sm_k s1 N2 (by decide)) (sr_k R1 N2 (by decide))⟩), u1⟩
    · rw [fw_bo_f c]
      have eb : sn_br e r = (1, ev_st e r.2.2.2, r.2.2.1, r.2.2.2) := (if_neg (fun u => u q)).trans (if_pos c)
      rw [eb] at h0
      refine fs_m_seBr4_15 hG ⟨u0, fun _ => mp_bad hm1.1 (by decide) (fun σ' hM h10 h11 => fs_m_seBr4_23 hG ⟨fw_01, h0 (show (1 : Int) ≠ 0 by decide) σ' (ev_tr M1 (ev_up hM (by decide))) ?_ h11⟩)⟩
      rw [h10]
      split <;> rfl)
end
abbrev fk_m_seOne5 : List fw_CR := [(168, 1, true, 11, 0, sp_m_bad), (182, 0, true, 11, 1, sp_m_go), (185, 1, true, 11, 0, sp_m_isSign), (225, 1, true, 11, 2, sp_m_isWord), (261, 0, true, 11, 0, sp_m_tunes), (510, 0, true, 11, 24, sp_m_seBr 4), (513, 0, true, 11, 22, sp_m_seNot 4), (516, 3, true, 11, 3, sp_m_seOf), (519, 1, true, 11, 3, sp_m_seCmp)]
abbrev st_m_seOne5 : fw_K → fw_KR → fw_K := fw_st vwCl nn_sh nn_kd fw_kv fw_wc (nn_KI20.map (fun x => x.1)) (nn_KJ20.map (fun x => x.1)) (nn_PF20.map (fun x => x.1)) (nn_PS20.map (fun x => x.1)) fk_m_seOne5 25 nn_dt344 4 1
theorem fs_m_seOne5_0 {G : fw_K} {R : fw_KR} (hG : fw_cls st_m_seOne5 R G) {σ : ab_SG} (h : sp_m_isSign [(2, 93, 0), (0, 0, 40)] σ (fun rv σ2 => G 6 [some (2, 93, 0), none, none, none] (rv.toList ++ []) σ2)) : G 0 [some (2, 93, 0), none, none, none] [] σ := fw_on hG [6, 10, 21, 30, 45, 46, 64, 69, 94, 104, 118, 141, 164, 181, 184, 193, 194] 200 h
theorem fs_m_seOne5_6 {G : fw_K} {R : fw_KR} (hG : fw_cls st_m_seOne5 R G) {b0 : Int} {o1 o3 : Option ab_AV} {σ : ab_SG} (h : G 10 [some (2, 93, 0), some (0, 0, b0), some (0, 0, 9), o3] [] σ) : G 6 [some (2, 93, 0), o1, none, o3] [(0, 0, b0)] σ := fw_on hG [6, 10, 21, 30, 45, 46, 64, 69, 94, 104, 118, 141, 164, 181, 184, 193, 194] 200 h
theorem fs_m_seOne5_10 {G : fw_K} {R : fw_KR} (hG : fw_cls st_m_seOne5 R G) {a1 a2 : Int} {o3 : Option ab_AV} {σ : ab_SG} (h : (fw_c 16 < fw_c a2 → G 30 [some (2, 93, 0), some (0, 0, a1), some (0, 0, a2), o3] [] σ) ∧ (fw_c a2 ≤ fw_c 16 → sp_m_isWord [(2, 93, 0), (0, 0, a2)] σ (fun rv σ2 => G 21 [some (2, 93, 0), some (0, 0, a1), some (0, 0, a2), o3] (rv.toList ++ []) σ2))) : G 10 [some (2, 93, 0), some (0, 0, a1), some (0, 0, a2), o3] [] σ := fw_on hG [6, 10, 21, 30, 45, 46, 64, 69, 94, 104, 118, 141, 164, 181, 184, 193, 194] 200 h
theorem fs_m_seOne5_30 {G : fw_K} {R : fw_KR} (hG : fw_cls st_m_seOne5 R G) {a1 a2 : Int} {o3 : Option ab_AV} {σ : ab_SG} (h : (fw_c a1 ≠ 0 → G 46 [some (2, 93, 0), some (0, 0, a1), some (0, 0, a2), o3] [] σ) ∧ (fw_c a1 = 0 → (fw_c a2 ≤ fw_c 16 → G 46 [some (2, 93, 0), some (0, 0, a1), some (0, 0, a2), o3] [] σ) ∧ (fw_c 16 < fw_c a2 → sp_m_bad [(2, 93, 0), (0, 0, 1)] σ (fun rv σ2 => G 45 [some (2, 93, 0), some (0, 0, a1), some (0, 0, a2), o3] (rv.toList ++ []) σ2)))) : G 30 [some (2, 93, 0), some (0, 0, a1), some (0, 0, a2), o3] [] σ := fw_on hG [6, 10, 21, 30, 45, 46, 64, 69, 94, 104, 118, 141, 164, 181, 184, 193, 194] 200 h
theorem fs_m_seOne5_21 {G : fw_K} {R : fw_KR} (hG : fw_cls st_m_seOne5 R G) {a1 a2 b0 : Int} {o3 : Option ab_AV} {σ : ab_SG} (h : (fw_c b0 ≠ 0 → G 30 [some (2, 93, 0), some (0, 0, a1), some (0, 0, a2), o3] [] σ) ∧ (fw_c b0 = 0 → G 10 [some (2, 93, 0), some (0, 0, a1), some (0, 0, a2 + 1), o3] [] σ)) : G 21 [some (2, 93, 0), some (0, 0, a1), some (0, 0, a2), o3] [(0, 0, b0)] σ := fw_on hG [6, 10, 21, 30, 45, 46, 64, 69, 94, 104, 118, 141, 164, 181, 184, 193, 194] 200 h
theorem fs_m_seOne5_46 {G : fw_K} {R : fw_KR} (hG : fw_cls st_m_seOne5 R G) {a1 a2 : Int} {o3 : Option ab_AV} {σ : ab_SG} (h : (fw_c (σ 93 60) = fw_c 20 → G 64 [some (2, 93, 0), some (0, 0, a1), some (0, 0, a2), o3] [] σ) ∧ (fw_c (σ 93 60) ≠ fw_c 20 → (fw_c (σ 93 61) ≠ fw_c 8 → sp_m_go [(2, 93, 0)] (ab_ups (ab_ups σ 93 60 (fw_c ((σ 93 60) + 1))) 93 61 (fw_c ((σ 93 61) + 1))) (fun rv σ2 => G 94 [some (2, 93, 0), some (0, 0, a1), some (0, 0, a2), o3] (rv.toList ++ []) σ2)) ∧ (fw_c (σ 93 61) = fw_c 8 → G 64 [some (2, 93, 0), some (0, 0, a1), some (0, 0, a2), o3] [] σ))) : G 46 [some (2, 93, 0), some (0, 0, a1), some (0, 0, a2), o3] [] σ := fw_on hG [6, 10, 21, 30, 45, 46, 64, 69, 94, 104, 118, 141, 164, 181, 184, 193, 194] 200 h
theorem fs_m_seOne5_45 {G : fw_K} {R : fw_KR} (hG : fw_cls st_m_seOne5 R G) {a2 b0 : Int} {o1 o3 : Option ab_AV} {σ : ab_SG} (h : (0 ≤ fw_c b0 ∧ fw_c b0 ≤ 1) ∧ R (some (0, 0, b0)) σ) : G 45 [some (2, 93, 0), o1, some (0, 0, a2), o3] [(0, 0, b0)] σ := fw_on hG [6, 10, 21, 30, 45, 46, 64, 69, 94, 104, 118, 141, 164, 181, 184, 193, 194] 200 h
theorem fs_m_seOne5_64 {G : fw_K} {R : fw_KR} (hG : fw_cls st_m_seOne5 R G) {a2 : Int} {o1 o3 : Option ab_AV} {σ : ab_SG} (h : sp_m_bad [(2, 93, 0), (0, 0, 4)] σ (fun rv σ2 => G 69 [some (2, 93, 0), o1, some (0, 0, a2), o3] (rv.toList ++ []) σ2)) : G 64 [some (2, 93, 0), o1, some (0, 0, a2), o3] [] σ := fw_on hG [6, 10, 21, 30, 45, 46, 64, 69, 94, 104, 118, 141, 164, 181, 184, 193, 194] 200 h
theorem fs_m_seOne5_94 {G : fw_K} {R : fw_KR} (hG : fw_cls st_m_seOne5 R G) {a1 a2 : Int} {o3 : Option ab_AV} {σ : ab_SG} (h : (fw_c a1 = 0 → (fw_c a2 ≠ fw_c 9 → (fw_c a2 ≠ fw_c 10 → (fw_c a2 ≠ fw_c 11 → (fw_c a2 ≠ fw_c 12 → sp_m_seCmp [(2, 93, 0), (0, 0, a2)] σ (fun rv σ2 => G 193 [some (2, 93, 0), some (0, 0, a1), some (0, 0, a2), some (0, 0, 1)] (rv.toList ++ []) σ2)) ∧ (fw_c a2 = fw_c 12 → sp_m_tunes [(2, 93, 0)] σ (fun rv σ2 => G 181 [some (2, 93, 0), some (0, 0, a1), some (0, 0, a2), some (0, 0, 1)] (rv.toList ++ [(0, 0, 0), (0, 0, a2), (2, 93, 0)]) σ2))) ∧ (fw_c a2 = fw_c 11 → (0 ≤ fw_c 2 ∧ fw_c 2 < ((474 : Nat) : Int)) ∧ (sp_m_seOf [(2, 93, 0), (0, 0, a2), (0, 0, 15), (0, 0, σ 95 (fw_c 2).toNat)] σ (fun rv σ2 => G 164 [some (2, 93, 0), some (0, 0, a1), some (0, 0, a2), some (0, 0, 1)] (rv.toList ++ []) σ2)))) ∧ (fw_c a2 = fw_c 10 → (0 ≤ fw_c 1 ∧ fw_c 1 < ((474 : Nat) : Int)) ∧ (sp_m_seOf [(2, 93, 0), (0, 0, a2), (0, 0, 9), (0, 0, σ 95 (fw_c 1).toNat)] σ (fun rv σ2 => G 141 [some (2, 93, 0), some (0, 0, a1), some (0, 0, a2), some (0, 0, 1)] (rv.toList ++ []) σ2)))) ∧ (fw_c a2 = fw_c 9 → sp_m_seNot 4 [(2, 93, 0)] σ (fun rv σ2 => G 118 [some (2, 93, 0), some (0, 0, a1), some (0, 0, a2), some (0, 0, 1)] (rv.toList ++ []) σ2))) ∧ (fw_c a1 ≠ 0 → sp_m_seBr 4 [(2, 93, 0)] σ (fun rv σ2 => G 104 [some (2, 93, 0), some (0, 0, a1), some (0, 0, a2), some (0, 0, 1)] (rv.toList ++ []) σ2))) : G 94 [some (2, 93, 0), some (0, 0, a1), some (0, 0, a2), o3] [] σ := fw_on hG [6, 10, 21, 30, 45, 46, 64, 69, 94, 104, 118, 141, 164, 181, 184, 193, 194] 200 h
theorem fs_m_seOne5_69 {G : fw_K} {R : fw_KR} (hG : fw_cls st_m_seOne5 R G) {a2 b0 : Int} {o1 o3 : Option ab_AV} {σ : ab_SG} (h : (0 ≤ fw_c b0 ∧ fw_c b0 ≤ 1) ∧ R (some (0, 0, b0)) σ) : G 69 [some (2, 93, 0), o1, some (0, 0, a2), o3] [(0, 0, b0)] σ := fw_on hG [6, 10, 21, 30, 45, 46, 64, 69, 94, 104, 118, 141, 164, 181, 184, 193, 194] 200 h
theorem fs_m_seOne5_193 {G : fw_K} {R : fw_KR} (hG : fw_cls st_m_seOne5 R G) {a2 b0 : Int} {o1 o3 : Option ab_AV} {σ : ab_SG} (h : G 194 [some (2, 93, 0), o1, some (0, 0, a2), some (0, 0, b0)] [] σ) : G 193 [some (2, 93, 0), o1, some (0, 0, a2), o3] [(0, 0, b0)] σ := fw_on hG [6, 10, 21, 30, 45, 46, 64, 69, 94, 104, 118, 141, 164, 181, 184, 193, 194] 200 h
theorem fs_m_seOne5_181 {G : fw_K} {R : fw_KR} (hG : fw_cls st_m_seOne5 R G) {a2 b0 b1 b2 : Int} {o1 o3 : Option ab_AV} {σ : ab_SG} (h : sp_m_seOf [(2, 93, 0), (0, 0, b2), (0, 0, b1), (0, 0, b0)] σ (fun rv σ2 => G 184 [some (2, 93, 0), o1, some (0, 0, a2), o3] (rv.toList ++ []) σ2)) : G 181 [some (2, 93, 0), o1, some (0, 0, a2), o3] [(0, 0, b0), (0, 0, b1), (0, 0, b2), (2, 93, 0)] σ := fw_on hG [6, 10, 21, 30, 45, 46, 64, 69, 94, 104, 118, 141, 164, 181, 184, 193, 194] 200 h
theorem fs_m_seOne5_164 {G : fw_K} {R : fw_KR} (hG : fw_cls st_m_seOne5 R G) {a2 b0 : Int} {o1 o3 : Option ab_AV} {σ : ab_SG} (h : G 194 [some (2, 93, 0), o1, some (0, 0, a2), some (0, 0, b0)] [] σ) : G 164 [some (2, 93, 0), o1, some (0, 0, a2), o3] [(0, 0, b0)] σ := fw_on hG [6, 10, 21, 30, 45, 46, 64, 69, 94, 104, 118, 141, 164, 181, 184, 193, 194] 200 h
theorem fs_m_seOne5_141 {G : fw_K} {R : fw_KR} (hG : fw_cls st_m_seOne5 R G) {a2 b0 : Int} {o1 o3 : Option ab_AV} {σ : ab_SG} (h : G 194 [some (2, 93, 0), o1, some (0, 0, a2), some (0, 0, b0)] [] σ) : G 141 [some (2, 93, 0), o1, some (0, 0, a2), o3] [(0, 0, b0)] σ := fw_on hG [6, 10, 21, 30, 45, 46, 64, 69, 94, 104, 118, 141, 164, 181, 184, 193, 194] 200 h
theorem fs_m_seOne5_118 {G : fw_K} {R : fw_KR} (hG : fw_cls st_m_seOne5 R G) {a2 b0 : Int} {o1 o3 : Option ab_AV} {σ : ab_SG} (h : G 194 [some (2, 93, 0), o1, some (0, 0, a2), some (0, 0, b0)] [] σ) : G 118 [some (2, 93, 0), o1, some (0, 0, a2), o3] [(0, 0, b0)] σ := fw_on hG [6, 10, 21, 30, 45, 46, 64, 69, 94, 104, 118, 141, 164, 181, 184, 193, 194] 200 h
theorem fs_m_seOne5_104 {G : fw_K} {R : fw_KR} (hG : fw_cls st_m_seOne5 R G) {a2 b0 : Int} {o1 o3 : Option ab_AV} {σ : ab_SG} (h : G 194 [some (2, 93, 0), o1, some (0, 0, a2), some (0, 0, b0)] [] σ) : G 104 [some (2, 93, 0), o1, some (0, 0, a2), o3] [(0, 0, b0)] σ := fw_on hG [6, 10, 21, 30, 45, 46, 64, 69, 94, 104, 118, 141, 164, 181, 184, 193, 194] 200 h
theorem fs_m_seOne5_194 {G : fw_K} {R : fw_KR} (hG : fw_cls st_m_seOne5 R G) {a2 a3 : Int} {o1 : Option ab_AV} {σ : ab_SG} (h : (0 ≤ fw_c a3 ∧ fw_c a3 ≤ 1) ∧ R (some (0, 0, a3)) (ab_ups σ 93 61 (fw_c ((σ 93 61) - 1)))) : G 194 [some (2, 93, 0), o1, some (0, 0, a2), some (0, 0, a3)] [] σ := fw_on hG [6, 10, 21, 30, 45, 46, 64, 69, 94, 104, 118, 141, 164, 181, 184, 193, 194] 200 h
theorem fs_m_seOne5_184 {G : fw_K} {R : fw_KR} (hG : fw_cls st_m_seOne5 R G) {a2 b0 : Int} {o1 o3 : Option ab_AV} {σ : ab_SG} (h : G 194 [some (2, 93, 0), o1, some (0, 0, a2), some (0, 0, b0)] [] σ) : G 184 [some (2, 93, 0), o1, some (0, 0, a2), o3] [(0, 0, b0)] σ := fw_on hG [6, 10, 21, 30, 45, 46, 64, 69, 94, 104, 118, 141, 164, 181, 184, 193, 194] 200 h
abbrev fk_m_seAnd5 : List fw_CR := [(182, 0, true, 11, 1, sp_m_go), (225, 1, true, 11, 2, sp_m_isWord), (498, 4, true, 11, 0, sp_m_saysOne), (501, 0, true, 11, 25, sp_m_seOne 5)]
abbrev st_m_seAnd5 : fw_K → fw_KR → fw_K := fw_st vwCl nn_sh nn_kd fw_kv fw_wc (nn_KI20.map (fun x => x.1)) (nn_KJ20.map (fun x => x.1)) (nn_PF20.map (fun x => x.1)) (nn_PS20.map (fun x => x.1)) fk_m_seAnd5 26 nn_dt343 2 1
theorem fs_m_seAnd5_0 {G : fw_K} {R : fw_KR} (hG : fw_cls st_m_seAnd5 R G) {σ : ab_SG} (h : sp_m_seOne 5 [(2, 93, 0)] σ (fun rv σ2 => G 4 [some (2, 93, 0), none] (rv.toList ++ []) σ2)) : G 0 [some (2, 93, 0), none] [] σ := fw_on hG [4, 14, 20, 27, 31, 47] 200 h
theorem fs_m_seAnd5_4 {G : fw_K} {R : fw_KR} (hG : fw_cls st_m_seAnd5 R G) {b0 : Int} {o1 : Option ab_AV} {σ : ab_SG} (h : (fw_c b0 ≠ 0 → G 14 [some (2, 93, 0), some (0, 0, σ 93 62)] [] σ) ∧ (fw_c b0 = 0 → (0 ≤ fw_c 0 ∧ fw_c 0 ≤ 1) ∧ R (some (0, 0, 0)) σ)) : G 4 [some (2, 93, 0), o1] [(0, 0, b0)] σ := fw_on hG [4, 14, 20, 27, 31, 47] 200 h
theorem fs_m_seAnd5_14 {G : fw_K} {R : fw_KR} (hG : fw_cls st_m_seAnd5 R G) {a1 : Int} {σ : ab_SG} (h : sp_m_isWord [(2, 93, 0), (0, 0, 8)] σ (fun rv σ2 => G 20 [some (2, 93, 0), some (0, 0, a1)] (rv.toList ++ []) σ2)) : G 14 [some (2, 93, 0), some (0, 0, a1)] [] σ := fw_on hG [4, 14, 20, 27, 31, 47] 200 h
theorem fs_m_seAnd5_20 {G : fw_K} {R : fw_KR} (hG : fw_cls st_m_seAnd5 R G) {a1 b0 : Int} {σ : ab_SG} (h : (fw_c b0 = 0 → (0 ≤ fw_c 1 ∧ fw_c 1 ≤ 1) ∧ R (some (0, 0, 1)) (ab_ups σ 93 62 (fw_c a1))) ∧ (fw_c b0 ≠ 0 → sp_m_go [(2, 93, 0)] σ (fun rv σ2 => G 27 [some (2, 93, 0), some (0, 0, a1)] (rv.toList ++ []) σ2))) : G 20 [some (2, 93, 0), some (0, 0, a1)] [(0, 0, b0)] σ := fw_on hG [4, 14, 20, 27, 31, 47] 200 h
theorem fs_m_seAnd5_27 {G : fw_K} {R : fw_KR} (hG : fw_cls st_m_seAnd5 R G) {a1 : Int} {σ : ab_SG} (h : sp_m_seOne 5 [(2, 93, 0)] σ (fun rv σ2 => G 31 [some (2, 93, 0), some (0, 0, a1)] (rv.toList ++ []) σ2)) : G 27 [some (2, 93, 0), some (0, 0, a1)] [] σ := fw_on hG [4, 14, 20, 27, 31, 47] 200 h
theorem fs_m_seAnd5_31 {G : fw_K} {R : fw_KR} (hG : fw_cls st_m_seAnd5 R G) {a1 b0 : Int} {σ : ab_SG} (h : (fw_c b0 ≠ 0 → sp_m_saysOne [(2, 93, 0), (0, 0, 2), (0, 0, a1), (0, 0, σ 93 62), (0, 0, 0)] σ (fun rv σ2 => G 47 [some (2, 93, 0), some (0, 0, a1)] (rv.toList ++ []) σ2)) ∧ (fw_c b0 = 0 → (0 ≤ fw_c 0 ∧ fw_c 0 ≤ 1) ∧ R (some (0, 0, 0)) σ)) : G 31 [some (2, 93, 0), some (0, 0, a1)] [(0, 0, b0)] σ := fw_on hG [4, 14, 20, 27, 31, 47] 200 h
theorem fs_m_seAnd5_47 {G : fw_K} {R : fw_KR} (hG : fw_cls st_m_seAnd5 R G) {b0 : Int} {o1 : Option ab_AV} {σ : ab_SG} (h : G 14 [some (2, 93, 0), some (0, 0, b0)] [] σ) : G 47 [some (2, 93, 0), o1] [(0, 0, b0)] σ := fw_on hG [4, 14, 20, 27, 31, 47] 200 h
abbrev fk_m_seOr5 : List fw_CR := [(182, 0, true, 11, 1, sp_m_go), (225, 1, true, 11, 2, sp_m_isWord), (492, 0, true, 11, 26, sp_m_seAnd 5), (498, 4, true, 11, 0, sp_m_saysOne)]
abbrev st_m_seOr5 : fw_K → fw_KR → fw_K := fw_st vwCl nn_sh nn_kd fw_kv fw_wc (nn_KI20.map (fun x => x.1)) (nn_KJ20.map (fun x => x.1)) (nn_PF20.map (fun x => x.1)) (nn_PS20.map (fun x => x.1)) fk_m_seOr5 27 nn_dt342 2 1
theorem fs_m_seOr5_0 {G : fw_K} {R : fw_KR} (hG : fw_cls st_m_seOr5 R G) {σ : ab_SG} (h : sp_m_seAnd 5 [(2, 93, 0)] σ (fun rv σ2 => G 4 [some (2, 93, 0), none] (rv.toList ++ []) σ2)) : G 0 [some (2, 93, 0), none] [] σ := fw_on hG [4, 14, 20, 27, 31, 47] 200 h
theorem fs_m_seOr5_4 {G : fw_K} {R : fw_KR} (hG : fw_cls st_m_seOr5 R G) {b0 : Int} {o1 : Option ab_AV} {σ : ab_SG} (h : (fw_c b0 ≠ 0 → G 14 [some (2, 93, 0), some (0, 0, σ 93 62)] [] σ) ∧ (fw_c b0 = 0 → (0 ≤ fw_c 0 ∧ fw_c 0 ≤ 1) ∧ R (some (0, 0, 0)) σ)) : G 4 [some (2, 93, 0), o1] [(0, 0, b0)] σ := fw_on hG [4, 14, 20, 27, 31, 47] 200 h
theorem fs_m_seOr5_14 {G : fw_K} {R : fw_KR} (hG : fw_cls st_m_seOr5 R G) {a1 : Int} {σ : ab_SG} (h : sp_m_isWord [(2, 93, 0), (0, 0, 7)] σ (fun rv σ2 => G 20 [some (2, 93, 0), some (0, 0, a1)] (rv.toList ++ []) σ2)) : G 14 [some (2, 93, 0), some (0, 0, a1)] [] σ := fw_on hG [4, 14, 20, 27, 31, 47] 200 h
theorem fs_m_seOr5_20 {G : fw_K} {R : fw_KR} (hG : fw_cls st_m_seOr5 R G) {a1 b0 : Int} {σ : ab_SG} (h : (fw_c b0 = 0 → (0 ≤ fw_c 1 ∧ fw_c 1 ≤ 1) ∧ R (some (0, 0, 1)) (ab_ups σ 93 62 (fw_c a1))) ∧ (fw_c b0 ≠ 0 → sp_m_go [(2, 93, 0)] σ (fun rv σ2 => G 27 [some (2, 93, 0), some (0, 0, a1)] (rv.toList ++ []) σ2))) : G 20 [some (2, 93, 0), some (0, 0, a1)] [(0, 0, b0)] σ := fw_on hG [4, 14, 20, 27, 31, 47] 200 h
theorem fs_m_seOr5_27 {G : fw_K} {R : fw_KR} (hG : fw_cls st_m_seOr5 R G) {a1 : Int} {σ : ab_SG} (h : sp_m_seAnd 5 [(2, 93, 0)] σ (fun rv σ2 => G 31 [some (2, 93, 0), some (0, 0, a1)] (rv.toList ++ []) σ2)) : G 27 [some (2, 93, 0), some (0, 0, a1)] [] σ := fw_on hG [4, 14, 20, 27, 31, 47] 200 h
theorem fs_m_seOr5_31 {G : fw_K} {R : fw_KR} (hG : fw_cls st_m_seOr5 R G) {a1 b0 : Int} {σ : ab_SG} (h : (fw_c b0 ≠ 0 → sp_m_saysOne [(2, 93, 0), (0, 0, 3), (0, 0, a1), (0, 0, σ 93 62), (0, 0, 0)] σ (fun rv σ2 => G 47 [some (2, 93, 0), some (0, 0, a1)] (rv.toList ++ []) σ2)) ∧ (fw_c b0 = 0 → (0 ≤ fw_c 0 ∧ fw_c 0 ≤ 1) ∧ R (some (0, 0, 0)) σ)) : G 31 [some (2, 93, 0), some (0, 0, a1)] [(0, 0, b0)] σ := fw_on hG [4, 14, 20, 27, 31, 47] 200 h
theorem fs_m_seOr5_47 {G : fw_K} {R : fw_KR} (hG : fw_cls st_m_seOr5 R G) {b0 : Int} {o1 : Option ab_AV} {σ : ab_SG} (h : G 14 [some (2, 93, 0), some (0, 0, b0)] [] σ) : G 47 [some (2, 93, 0), o1] [(0, 0, b0)] σ := fw_on hG [4, 14, 20, 27, 31, 47] 200 h
abbrev fk_m_seBr5 : List fw_CR := [(168, 1, true, 11, 0, sp_m_bad), (182, 0, true, 11, 1, sp_m_go), (185, 1, true, 11, 0, sp_m_isSign), (522, 0, true, 11, 27, sp_m_seOr 5)]
abbrev st_m_seBr5 : fw_K → fw_KR → fw_K := fw_st vwCl nn_sh nn_kd fw_kv fw_wc (nn_KI20.map (fun x => x.1)) (nn_KJ20.map (fun x => x.1)) (nn_PF20.map (fun x => x.1)) (nn_PS20.map (fun x => x.1)) fk_m_seBr5 28 nn_dt345 1 1
theorem fs_m_seBr5_0 {G : fw_K} {R : fw_KR} (hG : fw_cls st_m_seBr5 R G) {σ : ab_SG} (h : sp_m_seOr 5 [(2, 93, 0)] σ (fun rv σ2 => G 4 [some (2, 93, 0)] (rv.toList ++ []) σ2)) : G 0 [some (2, 93, 0)] [] σ := fw_on hG [4, 15, 23, 28] 200 h
theorem fs_m_seBr5_4 {G : fw_K} {R : fw_KR} (hG : fw_cls st_m_seBr5 R G) {b0 : Int} {σ : ab_SG} (h : (fw_c b0 ≠ 0 → sp_m_isSign [(2, 93, 0), (0, 0, 41)] σ (fun rv σ2 => G 15 [some (2, 93, 0)] (rv.toList ++ []) σ2)) ∧ (fw_c b0 = 0 → (0 ≤ fw_c 0 ∧ fw_c 0 ≤ 1) ∧ R (some (0, 0, 0)) σ)) : G 4 [some (2, 93, 0)] [(0, 0, b0)] σ := fw_on hG [4, 15, 23, 28] 200 h
theorem fs_m_seBr5_15 {G : fw_K} {R : fw_KR} (hG : fw_cls st_m_seBr5 R G) {b0 : Int} {σ : ab_SG} (h : (fw_c b0 ≠ 0 → sp_m_go [(2, 93, 0)] σ (fun rv σ2 => G 28 [some (2, 93, 0)] (rv.toList ++ []) σ2)) ∧ (fw_c b0 = 0 → sp_m_bad [(2, 93, 0), (0, 0, 1)] σ (fun rv σ2 => G 23 [some (2, 93, 0)] (rv.toList ++ []) σ2))) : G 15 [some (2, 93, 0)] [(0, 0, b0)] σ := fw_on hG [4, 15, 23, 28] 200 h
theorem fs_m_seBr5_28 {G : fw_K} {R : fw_KR} (hG : fw_cls st_m_seBr5 R G) {σ : ab_SG} (h : (0 ≤ fw_c 1 ∧ fw_c 1 ≤ 1) ∧ R (some (0, 0, 1)) σ) : G 28 [some (2, 93, 0)] [] σ := fw_on hG [4, 15, 23, 28] 200 h
theorem fs_m_seBr5_23 {G : fw_K} {R : fw_KR} (hG : fw_cls st_m_seBr5 R G) {b0 : Int} {σ : ab_SG} (h : (0 ≤ fw_c b0 ∧ fw_c b0 ≤ 1) ∧ R (some (0, 0, b0)) σ) : G 23 [some (2, 93, 0)] [(0, 0, b0)] σ := fw_on hG [4, 15, 23, 28] 200 h
abbrev fk_m_seNot5 : List fw_CR := [(498, 4, true, 11, 0, sp_m_saysOne), (501, 0, true, 11, 25, sp_m_seOne 5)]
abbrev st_m_seNot5 : fw_K → fw_KR → fw_K := fw_st vwCl nn_sh nn_kd fw_kv fw_wc (nn_KI20.map (fun x => x.1)) (nn_KJ20.map (fun x => x.1)) (nn_PF20.map (fun x => x.1)) (nn_PS20.map (fun x => x.1)) fk_m_seNot5 26 nn_dt346 1 1
theorem fs_m_seNot5_0 {G : fw_K} {R : fw_KR} (hG : fw_cls st_m_seNot5 R G) {σ : ab_SG} (h : sp_m_seOne 5 [(2, 93, 0)] σ (fun rv σ2 => G 4 [some (2, 93, 0)] (rv.toList ++ []) σ2)) : G 0 [some (2, 93, 0)] [] σ := fw_on hG [4, 21] 200 h
theorem fs_m_seNot5_4 {G : fw_K} {R : fw_KR} (hG : fw_cls st_m_seNot5 R G) {b0 : Int} {σ : ab_SG} (h : (fw_c b0 ≠ 0 → sp_m_saysOne [(2, 93, 0), (0, 0, 1), (0, 0, σ 93 62), (0, 0, 0), (0, 0, 0)] σ (fun rv σ2 => G 21 [some (2, 93, 0)] (rv.toList ++ [(2, 93, 0)]) σ2)) ∧ (fw_c b0 = 0 → (0 ≤ fw_c 0 ∧ fw_c 0 ≤ 1) ∧ R (some (0, 0, 0)) σ)) : G 4 [some (2, 93, 0)] [(0, 0, b0)] σ := fw_on hG [4, 21] 200 h
theorem fs_m_seNot5_21 {G : fw_K} {R : fw_KR} (hG : fw_cls st_m_seNot5 R G) {b0 : Int} {σ : ab_SG} (h : (0 ≤ fw_c 1 ∧ fw_c 1 ≤ 1) ∧ R (some (0, 0, 1)) (ab_ups σ 93 62 (fw_c b0))) : G 21 [some (2, 93, 0)] [(0, 0, b0), (2, 93, 0)] σ := fw_on hG [4, 21] 200 h
section
variable {l : Launch} {cy : Nat → ClassId} {ad wr cr : Nat → Nat} {D : va_G}
theorem fm_m_seOne5 (hinj : nn_inj ad) : fw_H l cy ad wr cr D 344 25 (sp_m_seOne 5) := fw_mk hinj (⟨"NameNotesModel", "readOne", "()Z"⟩, prog_14_method_142_code, 4, (Option.some Jvm.ClassFile.FieldType.boolean), 0, true, 1) rfl rfl nn_KI20_ok nn_KJ20_ok nn_PF20_ok nn_PS20_ok (by decide +kernel) rfl rfl (List.forall_mem_cons.mpr ⟨fw_row nn_PM20_ok (x := 168) (k := 0) (mn := 221) (np := 1) (ob := true) (ci := 11) (⟨"NameNotesModel", "bad", "(I)Z"⟩, prog_14_method_23_code, 2, (Option.some Jvm.ClassFile.FieldType.boolean), 1, true, 1) rfl (by decide +kernel) rfl rfl (by decide) (fun _ => ⟨_, _, rfl⟩) (fm_m_bad hinj), (List.forall_mem_cons.mpr ⟨fw_row nn_PM20_ok (x := 182) (k := 0) (mn := 212) (np := 0) (ob := true) (ci := 11) (⟨"NameNotesModel", "go", "()V"⟩, prog_14_method_17_code, 5, (Option.none : Option Jvm.ClassFile.FieldType), 0, true, 4) rfl (by decide +kernel) rfl rfl (by decide) (fun _ => ⟨_, _, rfl⟩) (fm_m_go hinj), (List.forall_mem_cons.mpr ⟨fw_row nn_PM20_ok (x := 185) (k := 0) (mn := 236) (np := 1) (ob := true) (ci := 11) (⟨"NameNotesModel", "isSign", "(I)Z"⟩, prog_14_method_21_code, 2, (Option.some Jvm.ClassFile.FieldType.boolean), 1, true, 1) rfl (by decide +kernel) rfl rfl (by decide) (fun _ => ⟨_, _, rfl⟩) (fm_m_isSign hinj), (List.forall_mem_cons.mpr ⟨fw_row nn_PM20_ok (x := 225) (k := 0) (mn := 217) (np := 1) (ob := true) (ci := 11) (⟨"NameNotesModel", "isWord", "(I)Z"⟩, prog_14_method_20_code, 2, (Option.some Jvm.ClassFile.FieldType.boolean), 1, true, 1) rfl (by decide +kernel) rfl rfl (by decide) (fun _ => ⟨_, _, rfl⟩) (fm_m_isWord hinj), (List.forall_mem_cons.mpr ⟨fw_row nn_PM20_ok (x := 261) (k := 0) (mn := 240) (np := 0) (ob := true) (ci := 11) (⟨"NameNotesModel", "tunes", "()I"⟩, prog_14_method_41_code, 1, (Option.some Jvm.ClassFile.FieldType.int), 0, true, 0) rfl (by decide +kernel) rfl rfl (by decide) (fun _ => ⟨_, _, rfl⟩) (fm_m_tunes hinj), (List.forall_mem_cons.mpr ⟨fw_row nn_PM20_ok (x := 510) (k := 0) (mn := 345) (np := 0) (ob := true) (ci := 11) (⟨"NameNotesModel", "readBracket", "()Z"⟩, prog_14_method_144_code, 1, (Option.some Jvm.ClassFile.FieldType.boolean), 0, true, 1) rfl (by decide +kernel) rfl rfl (by decide) (fun _ => ⟨_, _, rfl⟩) (fm_m_seBr4 hinj), (List.forall_mem_cons.mpr ⟨fw_row nn_PM20_ok (x := 513) (k := 0) (mn := 346) (np := 0) (ob := true) (ci := 11) (⟨"NameNotesModel", "readNot", "()Z"⟩, prog_14_method_143_code, 1, (Option.some Jvm.ClassFile.FieldType.boolean), 0, true, 1) rfl (by decide +kernel) rfl rfl (by decide) (fun _ => ⟨_, _, rfl⟩) (fm_m_seNot4 hinj), (List.forall_mem_cons.mpr ⟨fw_row nn_PM20_ok (x := 516) (k := 0) (mn := 348) (np := 3) (ob := true) (ci := 11) (⟨"NameNotesModel", "readOf", "(III)Z"⟩, prog_14_method_145_code, 5, (Option.some Jvm.ClassFile.FieldType.boolean), 3, true, 1) rfl (by decide +kernel) rfl rfl (by decide) (fun _ => ⟨_, _, rfl⟩) (fm_m_seOf hinj), (List.forall_mem_cons.mpr ⟨fw_row nn_PM20_ok (x := 519) (k := 0) (mn := 349) (np := 1) (ob := true) (ci := 11) (⟨"NameNotesModel", "readCompare", "(I)Z"⟩, prog_14_method_146_code, 3, (Option.some Jvm.ClassFile.FieldType.boolean), 1, true, 1) rfl (by decide +kernel) rfl rfl (by decide) (fun _ => ⟨_, _, rfl⟩) (fm_m_seCmp hinj), (fun _ h => absurd h List.not_mem_nil)⟩)⟩)⟩)⟩)⟩)⟩)⟩)⟩)⟩) (fun as σ K h => by
  obtain ⟨A, e, p, o, z, rfl, ⟨hN, hm, hs, ho⟩, h0, h1⟩ := h
  have c16 : fw_c 16 = 16 := fw_s (by decide) (by decide)
  have c20 : fw_c 20 = 20 := fw_s (by decide) (by decide)
  have c8 : fw_c 8 = 8 := fw_s (by decide) (by decide)
  have c60 : fw_c (σ 93 60) = (o : Int) := by rw [hs.1]; exact fw_s (by omega) (by omega)
  have c61 : fw_c (σ 93 61) = ((8 - 5 : Nat) : Int) := by rw [hs.2.1]; exact fw_s (by decide) (by decide)
  have u0 : ∀ {X : Prop}, fw_c 0 ≠ 0 → X := fun z => absurd fw_c0 z
  have u1 : ∀ {X : Prop}, fw_c 1 = 0 → X := fun z => absurd (fw_c1.symm.trans z) (by decide)
  have n40 : (tk e p).1 = 40 → ¬ (9 ≤ tw e p ∧ tw e p ≤ 16) := fun z y => by
    have := tw_k (e := e) (p := p) (by omega)
    omega
  refine ⟨rfl, fun G hG => ?_⟩
  -- too many, too deep
  have g64 : sn_st e p → sn_one A e 5 o p = (4, ev_st e p, o, p) → ∀ (o1 o3 : Option ab_AV) (w : Int), G 64 [some (2, 93, 0), o1, some (0, 0, w), o3] [] σ := fun y en o1 o3 w => by
    rw [en] at h0
    refine fs_m_seOne5_64 hG (mp_bad hm.1 (by decide) (fun σ' hM h10 h11 => fs_m_seOne5_69 hG ⟨fw_01, h0 (show (4 : Int) ≠ 0 by decide) σ' (ev_up hM (by decide)) ?_ h11⟩))
    have k : ¬ σ 93 7 = 1 := fun q => by
      have g := (mg_kind hm.1).2.2.1.mp q
      rcases y with y | y
      · omega
      · have := tw_k (e := e) (p := p) (by omega)
        omega
    rw [h10, if_neg k]
  have g46 : ∀ (b w : Int) (o3 : Option ab_AV), sn_st e p → ((b = 1 ∧ (tk e p).1 = 40) ∨ (b = 0 ∧ (tk e p).1 ≠ 40 ∧ w = tw e p)) → (0 ≤ w ∧ w ≤ 17) → G 46 [some (2, 93, 0), some (0, 0, b), some (0, 0, w), o3] [] σ := by
    intro b w o3 y hb hw
    refine fs_m_seOne5_46 hG ?_
    rw [c60, c61, c20, c8]
    refine ⟨fun q => g64 y ?_ _ o3 w, fun q => ⟨fun _ => ?_, fun q2 => absurd q2 (by decide)⟩⟩
    · rw [show sn_one A e 5 o p = _ from sn_one_s A e 4 o p, if_neg (fun u => u y), if_pos (by omega)]
    have en : sn_one A e 5 o p = _ := sn_one_s A e 4 o p
    rw [if_neg (fun u => u y), if_neg (by omega)] at en
    have ln : sl_one A e 5 o p = _ := sl_one_s A e 4 o p
    have co : fw_c (σ 93 60 + 1) = ((o + 1 : Nat) : Int) := by rw [hs.1]; exact fw_s (x := (o : Int) + 1) (by omega) (by omega)
    have cd : fw_c (σ 93 61 + 1) = ((8 - 4 : Nat) : Int) := by rw [hs.2.1]; exact fw_s (x := ((8 - 5 : Nat) : Int) + 1) (by decide) (by decide)
    rw [co, cd]
    have hm1 : mt_is (ab_ups (ab_ups σ 93 60 ((o + 1 : Nat) : Int)) 93 61 ((8 - 4 : Nat) : Int)) e p := mt_ups (mt_ups hm (Or.inr ⟨rfl, by decide⟩)) (Or.inr ⟨rfl, by decide⟩)
    have s1 : sm_is (ab_ups (ab_ups σ 93 60 ((o + 1 : Nat) : Int)) 93 61 ((8 - 4 : Nat) : Int)) (o + 1) (8 - 4) (z + 2) := ⟨(ab_ups_ne (by decide)).trans ab_ups_eq, ab_ups_eq, by rw [ab_ups_ne (by decide), ab_ups_ne (by decide)]; have := hs.2.2; omega⟩
    have M1 : ab_okM sm_M σ (ab_ups (ab_ups σ 93 60 ((o + 1 : Nat) : Int)) 93 61 ((8 - 4 : Nat) : Int)) := fw_okM_ups (fw_okM_ups (fw_okM_refl _ _) (by decide)) (by decide)
    have Q1 : gq σ (ab_ups (ab_ups σ 93 60 ((o + 1 : Nat) : Int)) 93 61 ((8 - 4 : Nat) : Int)) := gq_tr (gq_k (M := [(93, 60)]) okM_one (by decide)) (gq_k (M := [(93, 61)]) okM_one (by decide))
    generalize ab_ups (ab_ups σ 93 60 ((o + 1 : Nat) : Int)) 93 61 ((8 - 4 : Nat) : Int) = σ1 at hm1 s1 M1 Q1 ⊢
    refine mt_go hm1 (fun σ2 N2 hm2 => fs_m_seOne5_94 hG ?_)
    have q2 : gq σ σ2 := gq_tr Q1 (gq_k N2 (by decide))
    have M2 : ab_okM sm_M σ σ2 := ev_tr M1 (ev_up N2 (by decide))
    have s2 : sm_is σ2 (o + 1) (8 - 4) (z + 2) := sm_k s1 N2 (by decide)
    have N2' : NM σ2 A := sm_NM M2 hN
    have no : ∀ r : sn_T, sn_one A e 5 o p = r → r.1 ≠ 0 → ∀ σ' : ab_SG, ab_okM sm_M σ2 σ' → σ' 93 10 = r.1 → σ' 93 11 = r.2.1 → ∀ o1 : Option ab_AV, G 194 [some (2, 93, 0), o1, some (0, 0, w), some (0, 0, 0)] [] σ' := fun r er q σ' M a b o1 => by
      rw [er] at h0
      exact fs_m_seOne5_194 hG ⟨fw_01, h0 q _ (fw_okM_ups (ev_tr M2 M) (by decide)) ((ab_ups_ne (by decide)).trans a) ((ab_ups_ne (by decide)).trans b)⟩
    have ok : ∀ (r : sn_T) (L : sl_T), sn_one A e 5 o p = r → sl_one A e 5 o p = L → r.1 = 0 → ∀ (σ' : ab_SG) (zz h9 : Nat), z + 1 ≤ zz → h9 ≤ r.2.2.1 - o → ab_okM sm_M σ2 σ' → mt_is σ' e r.2.2.2 → sm_is σ' r.2.2.1 (8 - 4) zz → sr σ2 σ' h9 L → ∀ o1 : Option ab_AV, G 194 [some (2, 93, 0), o1, some (0, 0, w), some (0, 0, 1)] [] σ' := fun r L er el q σ' zz h9 hz hh M hm' s' R o1 => by
      rw [er, el] at h1
      have cv : fw_c (σ' 93 61 - 1) = ((8 - 5 : Nat) : Int) := by rw [s'.2.1]; exact fw_s (x := ((8 - 4 : Nat) : Int) - 1) (by decide) (by decide)
      refine fs_m_seOne5_194 hG ⟨fw_11, ?_⟩
      rw [cv]
      exact h1 q _ (fw_okM_ups (ev_tr M2 M) (by decide)) (mt_ups hm' (Or.inr ⟨rfl, by decide⟩)) ⟨(ab_ups_ne (by decide)).trans s'.1, ab_ups_eq, by rw [ab_ups_ne (by decide)]; have := s'.2.2; omega⟩ (sr_k (M := [(93, 61)]) (sr_l q2 hh R) okM_one (by decide))
    have cw : fw_c w = w := fw_s (by omega) (by omega)
    have c9 : fw_c 9 = 9 := fw_s (by decide) (by decide)
    have c10 : fw_c 10 = 10 := fw_s (by decide) (by decide)
    have c11 : fw_c 11 = 11 := fw_s (by decide) (by decide)
    have c12 : fw_c 12 = 12 := fw_s (by decide) (by decide)
    have c2 : fw_c 2 = 2 := fw_s (by decide) (by decide)
    have t1 : (fw_c 1).toNat = 1 := by rw [fw_c1]; rfl
    have t2 : (fw_c 2).toNat = 2 := by rw [c2]; rfl
    have nn := hN.1
    rw [cw, c9, c10, c11, c12, t1, t2, c2, fw_c1]
    refine ⟨fun q5 => ?_, fun q5 => ?_⟩
    · obtain ⟨n4, ew⟩ : (tk e p).1 ≠ 40 ∧ w = tw e p := by
        rcases hb with ⟨b1, -⟩ | ⟨-, k⟩
        · rw [b1] at q5
          exact u1 q5
        · exact k
      rw [if_neg n4] at en ln
      refine ⟨fun w9 => ⟨fun w10 => ⟨fun w11 => ⟨fun w12 => ?_, fun w12 => ⟨rfl, fs_m_seOne5_181 hG ?_⟩⟩, fun w11 => ⟨by decide, ?_⟩⟩, fun w10 => ⟨by decide, ?_⟩⟩, fun w9 => ?_⟩
      · rw [if_neg (by omega), if_neg (by omega), if_neg (by omega), if_neg (by omega)] at en ln
        have wk : 13 ≤ tw e p ∧ tw e p ≤ 16 := by
          have y2 := y.resolve_left n4
          omega
        rw [sk_13 wk, ← ew] at ln
        rw [← ew] at wk
        exact ⟨e, tn e p, o + 1, 8 - 4, z + 1, _, rfl, hm2, ⟨s2, by omega⟩, wk, fun q σ' M a b => fs_m_seOne5_193 hG (no _ en q σ' M a b _), fun q σ' M a b c => fs_m_seOne5_193 hG (ok _ _ en ln q σ' (z + 1) 1 (Nat.le_refl _) (by rw [sn_ms_0 q]; show 1 ≤ o + 1 - o; omega) M a b c _)⟩
      · rw [if_neg (by omega), if_neg (by omega), if_neg (by omega), if_pos (by omega), show (5 : Int) = w - 7 by omega] at ln
        rw [if_neg (by omega), if_neg (by omega), if_neg (by omega), if_pos (by omega)] at en
        rw [(NM_n N2').1]
        exact ⟨A, e, tn e p, o + 1, 8 - 4, z + 1, 0, 57, _, _, rfl, hm2, ⟨s2, by omega⟩, rm_11 N2', ⟨nn.1.1, by omega, by omega⟩, ⟨by omega, by omega⟩, fun q σ' M a b => fs_m_seOne5_184 hG (no _ en q σ' M a b _), fun q σ' M a b c => fs_m_seOne5_184 hG (ok _ _ en ln q σ' (z + 1) 1 (Nat.le_refl _) (by rw [(sn_nm_0 q).2]; show 1 ≤ o + 1 - o; omega) M a b c _)⟩
      · rw [if_neg (by omega), if_neg (by omega), if_pos (by omega), show (4 : Int) = w - 7 by omega] at ln
        rw [if_neg (by omega), if_neg (by omega), if_pos (by omega)] at en
        rw [(NM_n N2').2.2]
        exact ⟨A, e, tn e p, o + 1, 8 - 4, z + 1, 15, 59, _, _, rfl, hm2, ⟨s2, by omega⟩, rm_13 N2', ⟨nn.2.2.1.1, by omega, by omega⟩, ⟨by omega, by omega⟩, fun q σ' M a b => fs_m_seOne5_164 hG (no _ en q σ' M a b _), fun q σ' M a b c => fs_m_seOne5_164 hG (ok _ _ en ln q σ' (z + 1) 1 (Nat.le_refl _) (by rw [(sn_nm_0 q).2]; show 1 ≤ o + 1 - o; omega) M a b c _)⟩
      · rw [if_neg (by omega), if_pos (by omega), show (3 : Int) = w - 7 by omega] at ln
        rw [if_neg (by omega), if_pos (by omega)] at en
        rw [(NM_n N2').2.1]
        exact ⟨A, e, tn e p, o + 1, 8 - 4, z + 1, 9, 58, _, _, rfl, hm2, ⟨s2, by omega⟩, rm_12 N2', ⟨nn.2.1.1, by omega, by omega⟩, ⟨by omega, by omega⟩, fun q σ' M a b => fs_m_seOne5_141 hG (no _ en q σ' M a b _), fun q σ' M a b c => fs_m_seOne5_141 hG (ok _ _ en ln q σ' (z + 1) 1 (Nat.le_refl _) (by rw [(sn_nm_0 q).2]; show 1 ≤ o + 1 - o; omega) M a b c _)⟩
      · rw [if_pos (by omega)] at en ln
        exact ⟨A, e, tn e p, o + 1, z + 2, rfl, ⟨N2', hm2, s2, by omega⟩, fun q σ' M a b => fs_m_seOne5_118 hG (no _ en q σ' M a b _), fun q σ' M a b c => fs_m_seOne5_118 hG (ok _ _ en ln q σ' (z + 2) _ (by omega) (by have g := (sn_one_gr A e 4 (o + 1) (tn e p) (by omega) q).1; omega) M a b c _)⟩
    · have n4 : (tk e p).1 = 40 := by
        rcases hb with ⟨-, k⟩ | ⟨b0, -⟩
        · exact k
        · rw [b0] at q5
          exact u0 q5
      rw [if_pos n4] at en ln
      exact ⟨A, e, tn e p, o + 1, z + 2, rfl, ⟨N2', hm2, s2, by omega⟩, fun q σ' M a b => fs_m_seOne5_104 hG (no _ en q σ' M a b _), fun q σ' M a b c => fs_m_seOne5_104 hG (ok _ _ en ln q σ' (z + 3) _ (by omega) (by omega) M a b c _)⟩
  have g30 : ∀ (b w : Int) (o3 : Option ab_AV), ((b = 1 ∧ (tk e p).1 = 40) ∨ (b = 0 ∧ (tk e p).1 ≠ 40)) → ((w = tw e p ∧ 9 ≤ w ∧ w ≤ 16) ∨ (w = 17 ∧ ¬ (9 ≤ tw e p ∧ tw e p ≤ 16))) → G 30 [some (2, 93, 0), some (0, 0, b), some (0, 0, w), o3] [] σ := by
    intro b w o3 hb hw
    have cw : fw_c w = w := fw_s (by omega) (by omega)
    refine fs_m_seOne5_30 hG ?_
    rw [cw, c16]
    refine ⟨fun q => ?_, fun q => ⟨fun q2 => ?_, fun q2 => ?_⟩⟩
    · rcases hb with ⟨b1, k⟩ | ⟨b0, -⟩
      · exact g46 b w o3 (Or.inl k) (Or.inl ⟨b1, k⟩) ⟨by omega, by omega⟩
      · rw [b0] at q
        exact u0 q
    · rcases hb with ⟨b1, -⟩ | ⟨b0, k⟩
      · rw [b1] at q
        exact u1 q
      · exact g46 b w o3 (Or.inr ⟨by omega, by omega⟩) (Or.inr ⟨b0, k, by omega⟩) ⟨by omega, by omega⟩
    · rcases hb with ⟨b1, -⟩ | ⟨b0, k⟩
      · rw [b1] at q
        exact u1 q
      · have ns : ¬ sn_st e p := fun y => by
          rcases y with y | y
          · exact k y
          · omega
        have en : sn_one A e 5 o p = (1, ev_st e p, o, p) := (sn_one_s A e 4 o p).trans (if_pos ns)
        rw [en] at h0
        refine mp_bad hm.1 (by decide) (fun σ' hM h10 h11 => fs_m_seOne5_45 hG ⟨fw_01, h0 (show (1 : Int) ≠ 0 by decide) σ' (ev_up hM (by decide)) ?_ h11⟩)
        rw [h10]
        split <;> rfl
  have lw : ∀ (f w : Nat) (b : Int) (o3 : Option ab_AV), w + f = 17 → 9 ≤ w → (∀ v : Nat, 9 ≤ v → v < w → tw e p ≠ (v : Int)) → ((b = 1 ∧ (tk e p).1 = 40) ∨ (b = 0 ∧ (tk e p).1 ≠ 40)) → G 10 [some (2, 93, 0), some (0, 0, b), some (0, 0, (w : Int)), o3] [] σ := by
    intro f
    induction f with
    | zero =>
      intro w b o3 hf h9 hv hb
      have ew : w = 17 := by omega
      subst ew
      refine fs_m_seOne5_10 hG ⟨fun _ => g30 b _ o3 hb (Or.inr ⟨rfl, fun y => ?_⟩), fun q => absurd q (by rw [c16]; decide)⟩
      have := hv (tw e p).toNat (by omega) (by omega)
      omega
    | succ f ih =>
      intro w b o3 hf h9 hv hb
      have cw : fw_c (w : Int) = (w : Int) := fw_s (by omega) (by omega)
      refine fs_m_seOne5_10 hG ⟨fun q => absurd q (by rw [c16, cw]; omega), fun _ => ⟨w, e, p, rfl, by omega, hm.1, ?_⟩⟩
      by_cases c : tw e p = (w : Int)
      · rw [fw_bo_t c]
        exact fs_m_seOne5_21 hG ⟨fun _ => g30 b _ o3 hb (Or.inl ⟨c.symm, by omega, by omega⟩), u1⟩
      · rw [fw_bo_f c]
        refine fs_m_seOne5_21 hG ⟨u0, fun _ => ?_⟩
        have g := ih (w + 1) b o3 (by omega) (by omega) (fun v h1 h2 => by
          by_cases y : v = w
          · rw [y]
            exact c
          · exact hv v h1 (by omega)) hb
        rw [show ((w + 1 : Nat) : Int) = (w : Int) + 1 from rfl] at g
        exact g
  refine fs_m_seOne5_0 hG ⟨40, e, p, rfl, Or.inr (Or.inr (Or.inl rfl)), hm.1, ?_⟩
  by_cases c : (tk e p).1 = 40
  · rw [fw_bo_t c]
    exact fs_m_seOne5_6 hG (lw 8 9 1 _ rfl (by decide) (fun v h1 h2 => by omega) (Or.inl ⟨rfl, c⟩))
  · rw [fw_bo_f c]
    exact fs_m_seOne5_6 hG (lw 8 9 0 _ rfl (by decide) (fun v h1 h2 => by omega) (Or.inr ⟨rfl, c⟩)))
theorem fm_m_seNot5 (hinj : nn_inj ad) : fw_H l cy ad wr cr D 346 26 (sp_m_seNot 5) := fw_mk hinj (⟨"NameNotesModel", "readNot", "()Z"⟩, prog_14_method_143_code, 1, (Option.some Jvm.ClassFile.FieldType.boolean), 0, true, 1) rfl rfl nn_KI20_ok nn_KJ20_ok nn_PF20_ok nn_PS20_ok (by decide +kernel) rfl rfl (List.forall_mem_cons.mpr ⟨fw_row nn_PM20_ok (x := 498) (k := 0) (mn := 347) (np := 4) (ob := true) (ci := 11) (⟨"NameNotesModel", "saysOne", "(IIII)I"⟩, prog_14_method_139_code, 6, (Option.some Jvm.ClassFile.FieldType.int), 4, true, 0) rfl (by decide +kernel) rfl rfl (by decide) (fun _ => ⟨_, _, rfl⟩) (fm_m_saysOne hinj), (List.forall_mem_cons.mpr ⟨fw_row nn_PM20_ok (x := 501) (k := 0) (mn := 344) (np := 0) (ob := true) (ci := 11) (⟨"NameNotesModel", "readOne", "()Z"⟩, prog_14_method_142_code, 4, (Option.some Jvm.ClassFile.FieldType.boolean), 0, true, 1) rfl (by decide +kernel) rfl rfl (by decide) (fun _ => ⟨_, _, rfl⟩) (fm_m_seOne5 hinj), (fun _ h => absurd h List.not_mem_nil)⟩)⟩) (fun as σ K h => by
  obtain ⟨A, e, p, o, z, rfl, hp, h0, h1⟩ := h
  have u0 : ∀ {X : Prop}, fw_c 0 ≠ 0 → X := fun z => absurd fw_c0 z
  have u1 : ∀ {X : Prop}, fw_c 1 = 0 → X := fun z => absurd (fw_c1.symm.trans z) (by decide)
  refine ⟨rfl, fun G hG => fs_m_seNot5_0 hG ⟨A, e, p, o, z, rfl, hp, fun q σ' M a b => fs_m_seNot5_4 hG ⟨u0, fun _ => ⟨fw_01, h0 q σ' M a b⟩⟩, fun q σ1 M1 hm1 s1 R1 => fs_m_seNot5_4 hG ⟨fun _ => ⟨_, _, _, _, rfl, ⟨s1.2.2.1, ?_⟩, fun v σ2 M2 e59 ev hd => fs_m_seNot5_21 hG ⟨fw_11, ?_⟩⟩, u1⟩⟩⟩
  · have gr := (sn_one_gr A e 5 o p hp.2.2.2 q).2
    have := s1.2.2.2
    omega
  · exact h1 q _ (fw_okM_ups (ev_tr M1 (ev_up M2 (by decide))) (by decide)) (mt_ups (mt_M hm1 M2 (by decide) (by decide)) (Or.inr ⟨rfl, by decide⟩)) (sm_k (M := [(93, 62)]) (sm_s s1 M2 e59) okM_one (by decide)) (by
      have gr := (sn_one_gr A e 5 o p hp.2.2.2 q).2
      have b59 := s1.2.2
      refine sr_top (gq_tr R1.1 (ne_g e59 hd)) (by omega) ?_
      rw [ev]
      exact rp_not ⟨b59.1, by omega⟩ R1.2 e59 hd))
theorem fm_m_seAnd5 (hinj : nn_inj ad) : fw_H l cy ad wr cr D 343 26 (sp_m_seAnd 5) := fw_mk hinj (⟨"NameNotesModel", "readAnd", "()Z"⟩, prog_14_method_141_code, 2, (Option.some Jvm.ClassFile.FieldType.boolean), 0, true, 1) rfl rfl nn_KI20_ok nn_KJ20_ok nn_PF20_ok nn_PS20_ok (by decide +kernel) rfl rfl (List.forall_mem_cons.mpr ⟨fw_row nn_PM20_ok (x := 182) (k := 0) (mn := 212) (np := 0) (ob := true) (ci := 11) (⟨"NameNotesModel", "go", "()V"⟩, prog_14_method_17_code, 5, (Option.none : Option Jvm.ClassFile.FieldType), 0, true, 4) rfl (by decide +kernel) rfl rfl (by decide) (fun _ => ⟨_, _, rfl⟩) (fm_m_go hinj), (List.forall_mem_cons.mpr ⟨fw_row nn_PM20_ok (x := 225) (k := 0) (mn := 217) (np := 1) (ob := true) (ci := 11) (⟨"NameNotesModel", "isWord", "(I)Z"⟩, prog_14_method_20_code, 2, (Option.some Jvm.ClassFile.FieldType.boolean), 1, true, 1) rfl (by decide +kernel) rfl rfl (by decide) (fun _ => ⟨_, _, rfl⟩) (fm_m_isWord hinj), (List.forall_mem_cons.mpr ⟨fw_row nn_PM20_ok (x := 498) (k := 0) (mn := 347) (np := 4) (ob := true) (ci := 11) (⟨"NameNotesModel", "saysOne", "(IIII)I"⟩, prog_14_method_139_code, 6, (Option.some Jvm.ClassFile.FieldType.int), 4, true, 0) rfl (by decide +kernel) rfl rfl (by decide) (fun _ => ⟨_, _, rfl⟩) (fm_m_saysOne hinj), (List.forall_mem_cons.mpr ⟨fw_row nn_PM20_ok (x := 501) (k := 0) (mn := 344) (np := 0) (ob := true) (ci := 11) (⟨"NameNotesModel", "readOne", "()Z"⟩, prog_14_method_142_code, 4, (Option.some Jvm.ClassFile.FieldType.boolean), 0, true, 1) rfl (by decide +kernel) rfl rfl (by decide) (fun _ => ⟨_, _, rfl⟩) (fm_m_seOne5 hinj), (fun _ h => absurd h List.not_mem_nil)⟩)⟩)⟩)⟩) (fun as σ K h => by
  obtain ⟨A, e, p, o, z, g, rfl, ⟨hN, hm, hs, ho⟩, hg, h⟩ := h
  obtain ⟨h0, h1⟩ := h _ rfl
  have u0 : ∀ {X : Prop}, fw_c 0 ≠ 0 → X := fun z => absurd fw_c0 z
  have u1 : ∀ {X : Prop}, fw_c 1 = 0 → X := fun z => absurd (fw_c1.symm.trans z) (by decide)
  have og := sn_one_gr A e 5
  refine ⟨rfl, fun G hG => fs_m_seAnd5_0 hG ⟨A, e, p, o, z, rfl, ⟨hN, hm, hs, ho⟩, fun q σ' M a b => fs_m_seAnd5_4 hG ⟨u0, fun _ => ⟨fw_01, ?_⟩⟩, fun q σ1 M1 hm1 s1 R1 => fs_m_seAnd5_4 hG ⟨fun _ => ?_, u1⟩⟩⟩
  · rw [if_pos q] at h0
    exact h0 q σ' M a b
  · rw [if_neg (fun u => u q)] at h0 h1
    have gr := og o p ho q
    have loop : ∀ (f g1 o1 p1 : Nat) (τ : ab_SG) (a1 : Int) (LA : sl_T), 20 < f + o1 → 21 ≤ g1 + o1 → o + 1 ≤ o1 → o1 ≤ 20 → ab_okM sm_M σ τ → mt_is τ e p1 → sm_is τ o1 (8 - 5) (z + 1) → gq σ τ → rp (τ 121) (τ 93 59) (o1 - o) a1 LA → (∀ w : Bool, sl_one A e 5 o p ++ sl_lp (sn_one A e 5) (sl_one A e 5) e g w (sn_one A e 5 o p).2.2.1 (sn_one A e 5 o p).2.2.2 = LA ++ sl_lp (sn_one A e 5) (sl_one A e 5) e g1 w o1 p1) → sn_lp (sn_one A e 5) e g (sn_one A e 5 o p).2.2.1 (sn_one A e 5 o p).2.2.2 = sn_lp (sn_one A e 5) e g1 o1 p1 → G 14 [some (2, 93, 0), some (0, 0, a1)] [] τ := by
      intro f
      induction f with
      | zero =>
        intro g1 o1 p1 τ a1 LA hf _ _ h20 _ _ _ _ _ _ _
        omega
      | succ f ih =>
        intro g1 o1 p1 τ a1 LA hf hg1 ho1 h20 M hm' s' Q R hw hr
        refine fs_m_seAnd5_14 hG ⟨8, e, p1, rfl, by decide, hm'.1, ?_⟩
        show G 20 _ [(0, 0, fw_bo (tw e p1 = ((8 : Nat) : Int)))] τ
        by_cases c : tw e p1 = ((8 : Nat) : Int)
        · rw [fw_bo_t c]
          replace c : tw e p1 = 8 := c
          obtain ⟨g2, rfl⟩ : ∃ g2, g1 = g2 + 1 := ⟨g1 - 1, by omega⟩
          rw [sn_lps, if_pos (Or.inl c)] at hr
          refine fs_m_seAnd5_20 hG ⟨u1, fun _ => mt_go hm' (fun τ2 N2 hm2 => fs_m_seAnd5_27 hG ?_)⟩
          have M2 : ab_okM sm_M σ τ2 := ev_tr M (ev_up N2 (by decide))
          refine ⟨A, e, tn e p1, o1, z + 1, rfl, ⟨sm_NM M2 hN, hm2, sm_k s' N2 (by decide), h20⟩, fun q2 σ' M' a b => fs_m_seAnd5_31 hG ⟨u0, fun _ => ⟨fw_01, ?_⟩⟩, fun q2 τ3 M3 hm3 s3 R3 => fs_m_seAnd5_31 hG ⟨fun _ => ?_, u1⟩⟩
          · rw [if_pos q2] at hr
            rw [hr] at h0
            exact h0 q2 σ' (ev_tr M2 M') a b
          · rw [if_neg (fun u => u q2)] at hr
            have gr2 := og o1 (tn e p1) h20 q2
            have b59 := s3.2.2
            have Q3 : gq τ τ3 := gq_tr (gq_k N2 (by decide)) R3.1
            exact ⟨_, _, _, _, rfl, ⟨s3.2.2.1, by have := s3.2.2.2; omega⟩, fun v τ4 M4 e59 ev hd => fs_m_seAnd5_47 hG (ih g2 _ _ τ4 v (LA ++ (sl_one A e 5 o1 (tn e p1) ++ [(1, 0)])) (by omega) (by omega) (by omega) gr2.2 (ev_tr (ev_tr M2 M3) (ev_up M4 (by decide))) (mt_M hm3 M4 (by decide) (by decide)) (sm_s s3 M4 e59) (gq_tr (gq_tr Q Q3) (ne_g e59 hd)) (by
              rw [ev]
              exact rp_and (h := (sn_one A e 5 o1 (tn e p1)).2.2.1 - o) ⟨b59.1, by omega⟩ (rp_g Q3 (Nat.le_refl _) R) R3.2 e59 hd (by omega) (by omega)) (fun w => by
              rw [hw w, sl_lps, if_pos c, List.append_assoc, List.append_assoc]) hr)⟩
        · rw [fw_bo_f c]
          exact fs_m_seAnd5_20 hG ⟨fun _ => ⟨fw_11, h1 g1 o1 p1 _ hr c hg1 ho1 h20 (fw_okM_ups M (by decide)) (mt_ups hm' (Or.inr ⟨rfl, by decide⟩)) (sm_k (M := [(93, 62)]) s' okM_one (by decide)) LA hw (sr_top Q (by have := s'.2.2; omega) R)⟩, u0⟩
    exact loop 21 g _ _ σ1 _ _ (by omega) (by omega) gr.1 gr.2 M1 hm1 s1 R1.1 R1.2 (fun _ => rfl) rfl)
theorem fm_m_seOr5 (hinj : nn_inj ad) : fw_H l cy ad wr cr D 342 27 (sp_m_seOr 5) := fw_mk hinj (⟨"NameNotesModel", "readOr", "()Z"⟩, prog_14_method_140_code, 2, (Option.some Jvm.ClassFile.FieldType.boolean), 0, true, 1) rfl rfl nn_KI20_ok nn_KJ20_ok nn_PF20_ok nn_PS20_ok (by decide +kernel) rfl rfl (List.forall_mem_cons.mpr ⟨fw_row nn_PM20_ok (x := 182) (k := 0) (mn := 212) (np := 0) (ob := true) (ci := 11) (⟨"NameNotesModel", "go", "()V"⟩, prog_14_method_17_code, 5, (Option.none : Option Jvm.ClassFile.FieldType), 0, true, 4) rfl (by decide +kernel) rfl rfl (by decide) (fun _ => ⟨_, _, rfl⟩) (fm_m_go hinj), (List.forall_mem_cons.mpr ⟨fw_row nn_PM20_ok (x := 225) (k := 0) (mn := 217) (np := 1) (ob := true) (ci := 11) (⟨"NameNotesModel", "isWord", "(I)Z"⟩, prog_14_method_20_code, 2, (Option.some Jvm.ClassFile.FieldType.boolean), 1, true, 1) rfl (by decide +kernel) rfl rfl (by decide) (fun _ => ⟨_, _, rfl⟩) (fm_m_isWord hinj), (List.forall_mem_cons.mpr ⟨fw_row nn_PM20_ok (x := 492) (k := 0) (mn := 343) (np := 0) (ob := true) (ci := 11) (⟨"NameNotesModel", "readAnd", "()Z"⟩, prog_14_method_141_code, 2, (Option.some Jvm.ClassFile.FieldType.boolean), 0, true, 1) rfl (by decide +kernel) rfl rfl (by decide) (fun _ => ⟨_, _, rfl⟩) (fm_m_seAnd5 hinj), (List.forall_mem_cons.mpr ⟨fw_row nn_PM20_ok (x := 498) (k := 0) (mn := 347) (np := 4) (ob := true) (ci := 11) (⟨"NameNotesModel", "saysOne", "(IIII)I"⟩, prog_14_method_139_code, 6, (Option.some Jvm.ClassFile.FieldType.int), 4, true, 0) rfl (by decide +kernel) rfl rfl (by decide) (fun _ => ⟨_, _, rfl⟩) (fm_m_saysOne hinj), (fun _ h => absurd h List.not_mem_nil)⟩)⟩)⟩)⟩) (fun as σ K h => by
  obtain ⟨A, e, p, o, z, rfl, hp, h0, h1⟩ := h
  have u0 : ∀ {X : Prop}, fw_c 0 ≠ 0 → X := fun z => absurd fw_c0 z
  have u1 : ∀ {X : Prop}, fw_c 1 = 0 → X := fun z => absurd (fw_c1.symm.trans z) (by decide)
  refine ⟨rfl, fun G hG => ?_⟩
  have loop : ∀ (f g1 o1 p1 : Nat) (τ : ab_SG) (a1 : Int) (LO : sl_T), 20 < f + o1 → 21 ≤ g1 + o1 → o + 1 ≤ o1 → o1 ≤ 20 → tw e p1 ≠ 8 → ab_okM sm_M σ τ → mt_is τ e p1 → sm_is τ o1 (8 - 5) (z + 1) → gq σ τ → rp (τ 121) (τ 93 59) (o1 - o) a1 LO → sl_cd (sn_one A e 5) (sl_one A e 5) e o p = LO ++ sl_lp (sn_one A e 5) (sl_one A e 5) e g1 false o1 p1 → sn_cd (sn_one A e 5) e o p = sn_lp (sn_one A e 5) e g1 o1 p1 → G 14 [some (2, 93, 0), some (0, 0, a1)] [] τ := by
    intro f
    induction f with
    | zero =>
      intro g1 o1 p1 τ a1 LO hf _ _ h20 _ _ _ _ _ _ _ _
      omega
    | succ f ih =>
      intro g1 o1 p1 τ a1 LO hf hg1 ho1 h20 c8 M hm' s' Q R hw hr
      obtain ⟨g2, rfl⟩ : ∃ g2, g1 = g2 + 1 := ⟨g1 - 1, by omega⟩
      rw [sn_lps] at hr
      rw [sl_lps, if_neg c8] at hw
      refine fs_m_seOr5_14 hG ⟨7, e, p1, rfl, by decide, hm'.1, ?_⟩
      show G 20 _ [(0, 0, fw_bo (tw e p1 = ((7 : Nat) : Int)))] τ
      by_cases c : tw e p1 = ((7 : Nat) : Int)
      · rw [fw_bo_t c]
        replace c : tw e p1 = 7 := c
        rw [if_pos (Or.inr c)] at hr
        rw [if_pos c] at hw
        refine fs_m_seOr5_20 hG ⟨u1, fun _ => mt_go hm' (fun τ2 N2 hm2 => fs_m_seOr5_27 hG ?_)⟩
        have M2 : ab_okM sm_M σ τ2 := ev_tr M (ev_up N2 (by decide))
        refine ⟨A, e, tn e p1, o1, z + 1, g2, rfl, ⟨sm_NM M2 hp.1, hm2, sm_k s' N2 (by decide), h20⟩, by omega, fun F eF => ⟨fun q σ' M' a b => fs_m_seOr5_31 hG ⟨u0, fun _ => ⟨fw_01, ?_⟩⟩, fun g3 o3 p3 τ3 e3 c3 hg3 ho3 h203 M3 hm3 s3 L3 w3 R3 => fs_m_seOr5_31 hG ⟨fun _ => ?_, u1⟩⟩⟩
        · rw [hr.trans eF.symm] at h0
          exact h0 q σ' (ev_tr M2 M') a b
        · have b59 := s3.2.2
          have Q3 : gq τ τ3 := gq_tr (gq_k N2 (by decide)) R3.1
          exact ⟨_, _, _, _, rfl, ⟨s3.2.2.1, by have := s3.2.2.2; omega⟩, fun v τ4 M4 e59 ev hd => fs_m_seOr5_47 hG (ih g3 o3 p3 τ4 v (LO ++ (L3 ++ [(2, 0)])) (by omega) hg3 (by omega) h203 c3 (ev_tr (ev_tr M2 M3) (ev_up M4 (by decide))) (mt_M hm3 M4 (by decide) (by decide)) (sm_s s3 M4 e59) (gq_tr (gq_tr Q Q3) (ne_g e59 hd)) (by
            rw [ev]
            exact rp_or (h := o3 - o) ⟨b59.1, by omega⟩ (rp_g Q3 (Nat.le_refl _) R) R3.2 e59 hd (by omega) (by omega)) (by
            have w4 := w3 true
            rw [sl_lp_t c3] at w4
            rw [hw, w4, List.append_assoc, List.append_assoc]
            rfl) ((hr.trans eF.symm).trans e3))⟩
      · rw [fw_bo_f c]
        replace c : tw e p1 ≠ 7 := c
        rw [if_neg (fun u => u.elim c8 c)] at hr
        rw [if_neg c] at hw
        rw [hr, hw] at h1
        exact fs_m_seOr5_20 hG ⟨fun _ => ⟨fw_11, h1 rfl _ (fw_okM_ups M (by decide)) (mt_ups hm' (Or.inr ⟨rfl, by decide⟩)) (sm_k (M := [(93, 62)]) s' okM_one (by decide)) (by
          rw [show fl false = [] from rfl, List.append_nil]
          exact sr_top Q (by have := s'.2.2; omega) R)⟩, u0⟩
  refine fs_m_seOr5_0 hG ⟨A, e, p, o, z, 20, rfl, hp, by omega, fun F eF => ⟨fun q σ' M a b => fs_m_seOr5_4 hG ⟨u0, fun _ => ⟨fw_01, ?_⟩⟩, fun g' o' p' σ1 eq c8 hg ho1 ho2 M1 hm1 s1 LA wA RA => fs_m_seOr5_4 hG ⟨fun _ => ?_, u1⟩⟩⟩
  · have ec : sn_cd (sn_one A e 5) e o p = F := eF.symm
    rw [ec] at h0
    exact h0 q σ' M a b
  · have ec : sn_cd (sn_one A e 5) e o p = F := eF.symm
    exact loop 21 g' o' p' σ1 _ LA (by omega) hg ho1 ho2 c8 M1 hm1 s1 RA.1 RA.2 (wA false) (ec.trans eq))
theorem fm_m_seBr5 (hinj : nn_inj ad) : fw_H l cy ad wr cr D 345 28 (sp_m_seBr 5) := fw_mk hinj (⟨"NameNotesModel", "readBracket", "()Z"⟩, prog_14_method_144_code, 1, (Option.some Jvm.ClassFile.FieldType.boolean), 0, true, 1) rfl rfl nn_KI20_ok nn_KJ20_ok nn_PF20_ok nn_PS20_ok (by decide +kernel) rfl rfl (List.forall_mem_cons.mpr ⟨fw_row nn_PM20_ok (x := 168) (k := 0) (mn := 221) (np := 1) (ob := true) (ci := 11) (⟨"NameNotesModel", "bad", "(I)Z"⟩, prog_14_method_23_code, 2, (Option.some Jvm.ClassFile.FieldType.boolean), 1, true, 1) rfl (by decide +kernel) rfl rfl (by decide) (fun _ => ⟨_, _, rfl⟩) (fm_m_bad hinj), (List.forall_mem_cons.mpr ⟨fw_row nn_PM20_ok (x := 182) (k := 0) (mn := 212) (np := 0) (ob := true) (ci := 11) (⟨"NameNotesModel", "go", "()V"⟩, prog_14_method_17_code, 5, (Option.none : Option Jvm.ClassFile.FieldType), 0, true, 4) rfl (by decide +kernel) rfl rfl (by decide) (fun _ => ⟨_, _, rfl⟩) (fm_m_go hinj), (List.forall_mem_cons.mpr ⟨fw_row nn_PM20_ok (x := 185) (k := 0) (mn := 236) (np := 1) (ob := true) (ci := 11) (⟨"NameNotesModel", "isSign", "(I)Z"⟩, prog_14_method_21_code, 2, (Option.some Jvm.ClassFile.FieldType.boolean), 1, true, 1) rfl (by decide +kernel) rfl rfl (by decide) (fun _ => ⟨_, _, rfl⟩) (fm_m_isSign hinj), (List.forall_mem_cons.mpr ⟨fw_row nn_PM20_ok (x := 522) (k := 0) (mn := 342) (np := 0) (ob := true) (ci := 11) (⟨"NameNotesModel", "readOr", "()Z"⟩, prog_14_method_140_code, 2, (Option.some Jvm.ClassFile.FieldType.boolean), 0, true, 1) rfl (by decide +kernel) rfl rfl (by decide) (fun _ => ⟨_, _, rfl⟩) (fm_m_seOr5 hinj), (fun _ h => absurd h List.not_mem_nil)⟩)⟩)⟩)⟩) (fun as σ K h => by
  obtain ⟨A, e, p, o, z, rfl, hp, h0, h1⟩ := h
  have u0 : ∀ {X : Prop}, fw_c 0 ≠ 0 → X := fun z => absurd fw_c0 z
  have u1 : ∀ {X : Prop}, fw_c 1 = 0 → X := fun z => absurd (fw_c1.symm.trans z) (by decide)
  refine ⟨rfl, fun G hG => fs_m_seBr5_0 hG ⟨A, e, p, o, z, rfl, hp, ?_⟩⟩
  generalize sn_cd (sn_one A e 5) e o p = r at h0 h1 ⊢
  refine ⟨fun q σ' M a b => fs_m_seBr5_4 hG ⟨u0, fun _ => ⟨fw_01, ?_⟩⟩, fun q σ1 M1 hm1 s1 R1 => fs_m_seBr5_4 hG ⟨fun _ => ⟨41, e, r.2.2.2, rfl, Or.inr (Or.inr (Or.inr rfl)), hm1.1, ?_⟩, u1⟩⟩
  · rw [show sn_br e r = r from if_pos q] at h0
    exact h0 q σ' M a b
  · show G 15 _ [(0, 0, fw_bo ((tk e r.2.2.2).1 = 41))] σ1
    by_cases c : (tk e r.2.2.2).1 = 41
    · rw [fw_bo_t c]
      have eb : sn_br e r = (0, 0, r.2.2.1, tn e r.2.2.2) := (if_neg (fun u => u q)).trans (if_neg (fun u => u c))
      rw [eb] at h1
      exact fs_m_seBr5_15 hG ⟨fun _ => mt_go hm1 (fun σ2 N2 hm2 => fs_m_seBr5_28 hG ⟨fw_11, h1 rfl σ2 (ev_tr M1 (ev_up N2 (by decide))) hm2 (sm_k s1 N2 (by decide)) (sr_k R1 N2 (by decide))⟩), u1⟩
    · rw [fw_bo_f c]
      have eb : sn_br e r = (1, ev_st e r.2.2.2, r.2.2.1, r.2.2.2) := (if_neg (fun u => u q)).trans (if_pos c)
      rw [eb] at h0
      refine fs_m_seBr5_15 hG ⟨u0, fun _ => mp_bad hm1.1 (by decide) (fun σ' hM h10 h11 => fs_m_seBr5_23 hG ⟨fw_01, h0 (show (1 : Int) ≠ 0 by decide) σ' (ev_tr M1 (ev_up hM (by decide))) ?_ h11⟩)⟩
      rw [h10]
      split <;> rfl)
end
abbrev fk_m_seOne6 : List fw_CR := [(168, 1, true, 11, 0, sp_m_bad), (182, 0, true, 11, 1, sp_m_go), (185, 1, true, 11, 0, sp_m_isSign), (225, 1, true, 11, 2, sp_m_isWord), (261, 0, true, 11, 0, sp_m_tunes), (510, 0, true, 11, 28, sp_m_seBr 5), (513, 0, true, 11, 26, sp_m_seNot 5), (516, 3, true, 11, 3, sp_m_seOf), (519, 1, true, 11, 3, sp_m_seCmp)]
abbrev st_m_seOne6 : fw_K → fw_KR → fw_K := fw_st vwCl nn_sh nn_kd fw_kv fw_wc (nn_KI20.map (fun x => x.1)) (nn_KJ20.map (fun x => x.1)) (nn_PF20.map (fun x => x.1)) (nn_PS20.map (fun x => x.1)) fk_m_seOne6 29 nn_dt344 4 1
theorem fs_m_seOne6_0 {G : fw_K} {R : fw_KR} (hG : fw_cls st_m_seOne6 R G) {σ : ab_SG} (h : sp_m_isSign [(2, 93, 0), (0, 0, 40)] σ (fun rv σ2 => G 6 [some (2, 93, 0), none, none, none] (rv.toList ++ []) σ2)) : G 0 [some (2, 93, 0), none, none, none] [] σ := fw_on hG [6, 10, 21, 30, 45, 46, 64, 69, 94, 104, 118, 141, 164, 181, 184, 193, 194] 200 h
theorem fs_m_seOne6_6 {G : fw_K} {R : fw_KR} (hG : fw_cls st_m_seOne6 R G) {b0 : Int} {o1 o3 : Option ab_AV} {σ : ab_SG} (h : G 10 [some (2, 93, 0), some (0, 0, b0), some (0, 0, 9), o3] [] σ) : G 6 [some (2, 93, 0), o1, none, o3] [(0, 0, b0)] σ := fw_on hG [6, 10, 21, 30, 45, 46, 64, 69, 94, 104, 118, 141, 164, 181, 184, 193, 194] 200 h
theorem fs_m_seOne6_10 {G : fw_K} {R : fw_KR} (hG : fw_cls st_m_seOne6 R G) {a1 a2 : Int} {o3 : Option ab_AV} {σ : ab_SG} (h : (fw_c 16 < fw_c a2 → G 30 [some (2, 93, 0), some (0, 0, a1), some (0, 0, a2), o3] [] σ) ∧ (fw_c a2 ≤ fw_c 16 → sp_m_isWord [(2, 93, 0), (0, 0, a2)] σ (fun rv σ2 => G 21 [some (2, 93, 0), some (0, 0, a1), some (0, 0, a2), o3] (rv.toList ++ []) σ2))) : G 10 [some (2, 93, 0), some (0, 0, a1), some (0, 0, a2), o3] [] σ := fw_on hG [6, 10, 21, 30, 45, 46, 64, 69, 94, 104, 118, 141, 164, 181, 184, 193, 194] 200 h
theorem fs_m_seOne6_30 {G : fw_K} {R : fw_KR} (hG : fw_cls st_m_seOne6 R G) {a1 a2 : Int} {o3 : Option ab_AV} {σ : ab_SG} (h : (fw_c a1 ≠ 0 → G 46 [some (2, 93, 0), some (0, 0, a1), some (0, 0, a2), o3] [] σ) ∧ (fw_c a1 = 0 → (fw_c a2 ≤ fw_c 16 → G 46 [some (2, 93, 0), some (0, 0, a1), some (0, 0, a2), o3] [] σ) ∧ (fw_c 16 < fw_c a2 → sp_m_bad [(2, 93, 0), (0, 0, 1)] σ (fun rv σ2 => G 45 [some (2, 93, 0), some (0, 0, a1), some (0, 0, a2), o3] (rv.toList ++ []) σ2)))) : G 30 [some (2, 93, 0), some (0, 0, a1), some (0, 0, a2), o3] [] σ := fw_on hG [6, 10, 21, 30, 45, 46, 64, 69, 94, 104, 118, 141, 164, 181, 184, 193, 194] 200 h
theorem fs_m_seOne6_21 {G : fw_K} {R : fw_KR} (hG : fw_cls st_m_seOne6 R G) {a1 a2 b0 : Int} {o3 : Option ab_AV} {σ : ab_SG} (h : (fw_c b0 ≠ 0 → G 30 [some (2, 93, 0), some (0, 0, a1), some (0, 0, a2), o3] [] σ) ∧ (fw_c b0 = 0 → G 10 [some (2, 93, 0), some (0, 0, a1), some (0, 0, a2 + 1), o3] [] σ)) : G 21 [some (2, 93, 0), some (0, 0, a1), some (0, 0, a2), o3] [(0, 0, b0)] σ := fw_on hG [6, 10, 21, 30, 45, 46, 64, 69, 94, 104, 118, 141, 164, 181, 184, 193, 194] 200 h
theorem fs_m_seOne6_46 {G : fw_K} {R : fw_KR} (hG : fw_cls st_m_seOne6 R G) {a1 a2 : Int} {o3 : Option ab_AV} {σ : ab_SG} (h : (fw_c (σ 93 60) = fw_c 20 → G 64 [some (2, 93, 0), some (0, 0, a1), some (0, 0, a2), o3] [] σ) ∧ (fw_c (σ 93 60) ≠ fw_c 20 → (fw_c (σ 93 61) ≠ fw_c 8 → sp_m_go [(2, 93, 0)] (ab_ups (ab_ups σ 93 60 (fw_c ((σ 93 60) + 1))) 93 61 (fw_c ((σ 93 61) + 1))) (fun rv σ2 => G 94 [some (2, 93, 0), some (0, 0, a1), some (0, 0, a2), o3] (rv.toList ++ []) σ2)) ∧ (fw_c (σ 93 61) = fw_c 8 → G 64 [some (2, 93, 0), some (0, 0, a1), some (0, 0, a2), o3] [] σ))) : G 46 [some (2, 93, 0), some (0, 0, a1), some (0, 0, a2), o3] [] σ := fw_on hG [6, 10, 21, 30, 45, 46, 64, 69, 94, 104, 118, 141, 164, 181, 184, 193, 194] 200 h
theorem fs_m_seOne6_45 {G : fw_K} {R : fw_KR} (hG : fw_cls st_m_seOne6 R G) {a2 b0 : Int} {o1 o3 : Option ab_AV} {σ : ab_SG} (h : (0 ≤ fw_c b0 ∧ fw_c b0 ≤ 1) ∧ R (some (0, 0, b0)) σ) : G 45 [some (2, 93, 0), o1, some (0, 0, a2), o3] [(0, 0, b0)] σ := fw_on hG [6, 10, 21, 30, 45, 46, 64, 69, 94, 104, 118, 141, 164, 181, 184, 193, 194] 200 h
theorem fs_m_seOne6_64 {G : fw_K} {R : fw_KR} (hG : fw_cls st_m_seOne6 R G) {a2 : Int} {o1 o3 : Option ab_AV} {σ : ab_SG} (h : sp_m_bad [(2, 93, 0), (0, 0, 4)] σ (fun rv σ2 => G 69 [some (2, 93, 0), o1, some (0, 0, a2), o3] (rv.toList ++ []) σ2)) : G 64 [some (2, 93, 0), o1, some (0, 0, a2), o3] [] σ := fw_on hG [6, 10, 21, 30, 45, 46, 64, 69, 94, 104, 118, 141, 164, 181, 184, 193, 194] 200 h
theorem fs_m_seOne6_94 {G : fw_K} {R : fw_KR} (hG : fw_cls st_m_seOne6 R G) {a1 a2 : Int} {o3 : Option ab_AV} {σ : ab_SG} (h : (fw_c a1 = 0 → (fw_c a2 ≠ fw_c 9 → (fw_c a2 ≠ fw_c 10 → (fw_c a2 ≠ fw_c 11 → (fw_c a2 ≠ fw_c 12 → sp_m_seCmp [(2, 93, 0), (0, 0, a2)] σ (fun rv σ2 => G 193 [some (2, 93, 0), some (0, 0, a1), some (0, 0, a2), some (0, 0, 1)] (rv.toList ++ []) σ2)) ∧ (fw_c a2 = fw_c 12 → sp_m_tunes [(2, 93, 0)] σ (fun rv σ2 => G 181 [some (2, 93, 0), some (0, 0, a1), some (0, 0, a2), some (0, 0, 1)] (rv.toList ++ [(0, 0, 0), (0, 0, a2), (2, 93, 0)]) σ2))) ∧ (fw_c a2 = fw_c 11 → (0 ≤ fw_c 2 ∧ fw_c 2 < ((474 : Nat) : Int)) ∧ (sp_m_seOf [(2, 93, 0), (0, 0, a2), (0, 0, 15), (0, 0, σ 95 (fw_c 2).toNat)] σ (fun rv σ2 => G 164 [some (2, 93, 0), some (0, 0, a1), some (0, 0, a2), some (0, 0, 1)] (rv.toList ++ []) σ2)))) ∧ (fw_c a2 = fw_c 10 → (0 ≤ fw_c 1 ∧ fw_c 1 < ((474 : Nat) : Int)) ∧ (sp_m_seOf [(2, 93, 0), (0, 0, a2), (0, 0, 9), (0, 0, σ 95 (fw_c 1).toNat)] σ (fun rv σ2 => G 141 [some (2, 93, 0), some (0, 0, a1), some (0, 0, a2), some (0, 0, 1)] (rv.toList ++ []) σ2)))) ∧ (fw_c a2 = fw_c 9 → sp_m_seNot 5 [(2, 93, 0)] σ (fun rv σ2 => G 118 [some (2, 93, 0), some (0, 0, a1), some (0, 0, a2), some (0, 0, 1)] (rv.toList ++ []) σ2))) ∧ (fw_c a1 ≠ 0 → sp_m_seBr 5 [(2, 93, 0)] σ (fun rv σ2 => G 104 [some (2, 93, 0), some (0, 0, a1), some (0, 0, a2), some (0, 0, 1)] (rv.toList ++ []) σ2))) : G 94 [some (2, 93, 0), some (0, 0, a1), some (0, 0, a2), o3] [] σ := fw_on hG [6, 10, 21, 30, 45, 46, 64, 69, 94, 104, 118, 141, 164, 181, 184, 193, 194] 200 h
theorem fs_m_seOne6_69 {G : fw_K} {R : fw_KR} (hG : fw_cls st_m_seOne6 R G) {a2 b0 : Int} {o1 o3 : Option ab_AV} {σ : ab_SG} (h : (0 ≤ fw_c b0 ∧ fw_c b0 ≤ 1) ∧ R (some (0, 0, b0)) σ) : G 69 [some (2, 93, 0), o1, some (0, 0, a2), o3] [(0, 0, b0)] σ := fw_on hG [6, 10, 21, 30, 45, 46, 64, 69, 94, 104, 118, 141, 164, 181, 184, 193, 194] 200 h
theorem fs_m_seOne6_193 {G : fw_K} {R : fw_KR} (hG : fw_cls st_m_seOne6 R G) {a2 b0 : Int} {o1 o3 : Option ab_AV} {σ : ab_SG} (h : G 194 [some (2, 93, 0), o1, some (0, 0, a2), some (0, 0, b0)] [] σ) : G 193 [some (2, 93, 0), o1, some (0, 0, a2), o3] [(0, 0, b0)] σ := fw_on hG [6, 10, 21, 30, 45, 46, 64, 69, 94, 104, 118, 141, 164, 181, 184, 193, 194] 200 h
theorem fs_m_seOne6_181 {G : fw_K} {R : fw_KR} (hG : fw_cls st_m_seOne6 R G) {a2 b0 b1 b2 : Int} {o1 o3 : Option ab_AV} {σ : ab_SG} (h : sp_m_seOf [(2, 93, 0), (0, 0, b2), (0, 0, b1), (0, 0, b0)] σ (fun rv σ2 => G 184 [some (2, 93, 0), o1, some (0, 0, a2), o3] (rv.toList ++ []) σ2)) : G 181 [some (2, 93, 0), o1, some (0, 0, a2), o3] [(0, 0, b0), (0, 0, b1), (0, 0, b2), (2, 93, 0)] σ := fw_on hG [6, 10, 21, 30, 45, 46, 64, 69, 94, 104, 118, 141, 164, 181, 184, 193, 194] 200 h
theorem fs_m_seOne6_164 {G : fw_K} {R : fw_KR} (hG : fw_cls st_m_seOne6 R G) {a2 b0 : Int} {o1 o3 : Option ab_AV} {σ : ab_SG} (h : G 194 [some (2, 93, 0), o1, some (0, 0, a2), some (0, 0, b0)] [] σ) : G 164 [some (2, 93, 0), o1, some (0, 0, a2), o3] [(0, 0, b0)] σ := fw_on hG [6, 10, 21, 30, 45, 46, 64, 69, 94, 104, 118, 141, 164, 181, 184, 193, 194] 200 h
theorem fs_m_seOne6_141 {G : fw_K} {R : fw_KR} (hG : fw_cls st_m_seOne6 R G) {a2 b0 : Int} {o1 o3 : Option ab_AV} {σ : ab_SG} (h : G 194 [some (2, 93, 0), o1, some (0, 0, a2), some (0, 0, b0)] [] σ) : G 141 [some (2, 93, 0), o1, some (0, 0, a2), o3] [(0, 0, b0)] σ := fw_on hG [6, 10, 21, 30, 45, 46, 64, 69, 94, 104, 118, 141, 164, 181, 184, 193, 194] 200 h
theorem fs_m_seOne6_118 {G : fw_K} {R : fw_KR} (hG : fw_cls st_m_seOne6 R G) {a2 b0 : Int} {o1 o3 : Option ab_AV} {σ : ab_SG} (h : G 194 [some (2, 93, 0), o1, some (0, 0, a2), some (0, 0, b0)] [] σ) : G 118 [some (2, 93, 0), o1, some (0, 0, a2), o3] [(0, 0, b0)] σ := fw_on hG [6, 10, 21, 30, 45, 46, 64, 69, 94, 104, 118, 141, 164, 181, 184, 193, 194] 200 h
theorem fs_m_seOne6_104 {G : fw_K} {R : fw_KR} (hG : fw_cls st_m_seOne6 R G) {a2 b0 : Int} {o1 o3 : Option ab_AV} {σ : ab_SG} (h : G 194 [some (2, 93, 0), o1, some (0, 0, a2), some (0, 0, b0)] [] σ) : G 104 [some (2, 93, 0), o1, some (0, 0, a2), o3] [(0, 0, b0)] σ := fw_on hG [6, 10, 21, 30, 45, 46, 64, 69, 94, 104, 118, 141, 164, 181, 184, 193, 194] 200 h
theorem fs_m_seOne6_194 {G : fw_K} {R : fw_KR} (hG : fw_cls st_m_seOne6 R G) {a2 a3 : Int} {o1 : Option ab_AV} {σ : ab_SG} (h : (0 ≤ fw_c a3 ∧ fw_c a3 ≤ 1) ∧ R (some (0, 0, a3)) (ab_ups σ 93 61 (fw_c ((σ 93 61) - 1)))) : G 194 [some (2, 93, 0), o1, some (0, 0, a2), some (0, 0, a3)] [] σ := fw_on hG [6, 10, 21, 30, 45, 46, 64, 69, 94, 104, 118, 141, 164, 181, 184, 193, 194] 200 h
theorem fs_m_seOne6_184 {G : fw_K} {R : fw_KR} (hG : fw_cls st_m_seOne6 R G) {a2 b0 : Int} {o1 o3 : Option ab_AV} {σ : ab_SG} (h : G 194 [some (2, 93, 0), o1, some (0, 0, a2), some (0, 0, b0)] [] σ) : G 184 [some (2, 93, 0), o1, some (0, 0, a2), o3] [(0, 0, b0)] σ := fw_on hG [6, 10, 21, 30, 45, 46, 64, 69, 94, 104, 118, 141, 164, 181, 184, 193, 194] 200 h
abbrev fk_m_seAnd6 : List fw_CR := [(182, 0, true, 11, 1, sp_m_go), (225, 1, true, 11, 2, sp_m_isWord), (498, 4, true, 11, 0, sp_m_saysOne), (501, 0, true, 11, 29, sp_m_seOne 6)]
abbrev st_m_seAnd6 : fw_K → fw_KR → fw_K := fw_st vwCl nn_sh nn_kd fw_kv fw_wc (nn_KI20.map (fun x => x.1)) (nn_KJ20.map (fun x => x.1)) (nn_PF20.map (fun x => x.1)) (nn_PS20.map (fun x => x.1)) fk_m_seAnd6 30 nn_dt343 2 1
theorem fs_m_seAnd6_0 {G : fw_K} {R : fw_KR} (hG : fw_cls st_m_seAnd6 R G) {σ : ab_SG} (h : sp_m_seOne 6 [(2, 93, 0)] σ (fun rv σ2 => G 4 [some (2, 93, 0), none] (rv.toList ++ []) σ2)) : G 0 [some (2, 93, 0), none] [] σ := fw_on hG [4, 14, 20, 27, 31, 47] 200 h
theorem fs_m_seAnd6_4 {G : fw_K} {R : fw_KR} (hG : fw_cls st_m_seAnd6 R G) {b0 : Int} {o1 : Option ab_AV} {σ : ab_SG} (h : (fw_c b0 ≠ 0 → G 14 [some (2, 93, 0), some (0, 0, σ 93 62)] [] σ) ∧ (fw_c b0 = 0 → (0 ≤ fw_c 0 ∧ fw_c 0 ≤ 1) ∧ R (some (0, 0, 0)) σ)) : G 4 [some (2, 93, 0), o1] [(0, 0, b0)] σ := fw_on hG [4, 14, 20, 27, 31, 47] 200 h
theorem fs_m_seAnd6_14 {G : fw_K} {R : fw_KR} (hG : fw_cls st_m_seAnd6 R G) {a1 : Int} {σ : ab_SG} (h : sp_m_isWord [(2, 93, 0), (0, 0, 8)] σ (fun rv σ2 => G 20 [some (2, 93, 0), some (0, 0, a1)] (rv.toList ++ []) σ2)) : G 14 [some (2, 93, 0), some (0, 0, a1)] [] σ := fw_on hG [4, 14, 20, 27, 31, 47] 200 h
theorem fs_m_seAnd6_20 {G : fw_K} {R : fw_KR} (hG : fw_cls st_m_seAnd6 R G) {a1 b0 : Int} {σ : ab_SG} (h : (fw_c b0 = 0 → (0 ≤ fw_c 1 ∧ fw_c 1 ≤ 1) ∧ R (some (0, 0, 1)) (ab_ups σ 93 62 (fw_c a1))) ∧ (fw_c b0 ≠ 0 → sp_m_go [(2, 93, 0)] σ (fun rv σ2 => G 27 [some (2, 93, 0), some (0, 0, a1)] (rv.toList ++ []) σ2))) : G 20 [some (2, 93, 0), some (0, 0, a1)] [(0, 0, b0)] σ := fw_on hG [4, 14, 20, 27, 31, 47] 200 h
theorem fs_m_seAnd6_27 {G : fw_K} {R : fw_KR} (hG : fw_cls st_m_seAnd6 R G) {a1 : Int} {σ : ab_SG} (h : sp_m_seOne 6 [(2, 93, 0)] σ (fun rv σ2 => G 31 [some (2, 93, 0), some (0, 0, a1)] (rv.toList ++ []) σ2)) : G 27 [some (2, 93, 0), some (0, 0, a1)] [] σ := fw_on hG [4, 14, 20, 27, 31, 47] 200 h
theorem fs_m_seAnd6_31 {G : fw_K} {R : fw_KR} (hG : fw_cls st_m_seAnd6 R G) {a1 b0 : Int} {σ : ab_SG} (h : (fw_c b0 ≠ 0 → sp_m_saysOne [(2, 93, 0), (0, 0, 2), (0, 0, a1), (0, 0, σ 93 62), (0, 0, 0)] σ (fun rv σ2 => G 47 [some (2, 93, 0), some (0, 0, a1)] (rv.toList ++ []) σ2)) ∧ (fw_c b0 = 0 → (0 ≤ fw_c 0 ∧ fw_c 0 ≤ 1) ∧ R (some (0, 0, 0)) σ)) : G 31 [some (2, 93, 0), some (0, 0, a1)] [(0, 0, b0)] σ := fw_on hG [4, 14, 20, 27, 31, 47] 200 h
theorem fs_m_seAnd6_47 {G : fw_K} {R : fw_KR} (hG : fw_cls st_m_seAnd6 R G) {b0 : Int} {o1 : Option ab_AV} {σ : ab_SG} (h : G 14 [some (2, 93, 0), some (0, 0, b0)] [] σ) : G 47 [some (2, 93, 0), o1] [(0, 0, b0)] σ := fw_on hG [4, 14, 20, 27, 31, 47] 200 h
abbrev fk_m_seOr6 : List fw_CR := [(182, 0, true, 11, 1, sp_m_go), (225, 1, true, 11, 2, sp_m_isWord), (492, 0, true, 11, 30, sp_m_seAnd 6), (498, 4, true, 11, 0, sp_m_saysOne)]
abbrev st_m_seOr6 : fw_K → fw_KR → fw_K := fw_st vwCl nn_sh nn_kd fw_kv fw_wc (nn_KI20.map (fun x => x.1)) (nn_KJ20.map (fun x => x.1)) (nn_PF20.map (fun x => x.1)) (nn_PS20.map (fun x => x.1)) fk_m_seOr6 31 nn_dt342 2 1
theorem fs_m_seOr6_0 {G : fw_K} {R : fw_KR} (hG : fw_cls st_m_seOr6 R G) {σ : ab_SG} (h : sp_m_seAnd 6 [(2, 93, 0)] σ (fun rv σ2 => G 4 [some (2, 93, 0), none] (rv.toList ++ []) σ2)) : G 0 [some (2, 93, 0), none] [] σ := fw_on hG [4, 14, 20, 27, 31, 47] 200 h
theorem fs_m_seOr6_4 {G : fw_K} {R : fw_KR} (hG : fw_cls st_m_seOr6 R G) {b0 : Int} {o1 : Option ab_AV} {σ : ab_SG} (h : (fw_c b0 ≠ 0 → G 14 [some (2, 93, 0), some (0, 0, σ 93 62)] [] σ) ∧ (fw_c b0 = 0 → (0 ≤ fw_c 0 ∧ fw_c 0 ≤ 1) ∧ R (some (0, 0, 0)) σ)) : G 4 [some (2, 93, 0), o1] [(0, 0, b0)] σ := fw_on hG [4, 14, 20, 27, 31, 47] 200 h
theorem fs_m_seOr6_14 {G : fw_K} {R : fw_KR} (hG : fw_cls st_m_seOr6 R G) {a1 : Int} {σ : ab_SG} (h : sp_m_isWord [(2, 93, 0), (0, 0, 7)] σ (fun rv σ2 => G 20 [some (2, 93, 0), some (0, 0, a1)] (rv.toList ++ []) σ2)) : G 14 [some (2, 93, 0), some (0, 0, a1)] [] σ := fw_on hG [4, 14, 20, 27, 31, 47] 200 h
theorem fs_m_seOr6_20 {G : fw_K} {R : fw_KR} (hG : fw_cls st_m_seOr6 R G) {a1 b0 : Int} {σ : ab_SG} (h : (fw_c b0 = 0 → (0 ≤ fw_c 1 ∧ fw_c 1 ≤ 1) ∧ R (some (0, 0, 1)) (ab_ups σ 93 62 (fw_c a1))) ∧ (fw_c b0 ≠ 0 → sp_m_go [(2, 93, 0)] σ (fun rv σ2 => G 27 [some (2, 93, 0), some (0, 0, a1)] (rv.toList ++ []) σ2))) : G 20 [some (2, 93, 0), some (0, 0, a1)] [(0, 0, b0)] σ := fw_on hG [4, 14, 20, 27, 31, 47] 200 h
theorem fs_m_seOr6_27 {G : fw_K} {R : fw_KR} (hG : fw_cls st_m_seOr6 R G) {a1 : Int} {σ : ab_SG} (h : sp_m_seAnd 6 [(2, 93, 0)] σ (fun rv σ2 => G 31 [some (2, 93, 0), some (0, 0, a1)] (rv.toList ++ []) σ2)) : G 27 [some (2, 93, 0), some (0, 0, a1)] [] σ := fw_on hG [4, 14, 20, 27, 31, 47] 200 h
theorem fs_m_seOr6_31 {G : fw_K} {R : fw_KR} (hG : fw_cls st_m_seOr6 R G) {a1 b0 : Int} {σ : ab_SG} (h : (fw_c b0 ≠ 0 → sp_m_saysOne [(2, 93, 0), (0, 0, 3), (0, 0, a1), (0, 0, σ 93 62), (0, 0, 0)] σ (fun rv σ2 => G 47 [some (2, 93, 0), some (0, 0, a1)] (rv.toList ++ []) σ2)) ∧ (fw_c b0 = 0 → (0 ≤ fw_c 0 ∧ fw_c 0 ≤ 1) ∧ R (some (0, 0, 0)) σ)) : G 31 [some (2, 93, 0), some (0, 0, a1)] [(0, 0, b0)] σ := fw_on hG [4, 14, 20, 27, 31, 47] 200 h
theorem fs_m_seOr6_47 {G : fw_K} {R : fw_KR} (hG : fw_cls st_m_seOr6 R G) {b0 : Int} {o1 : Option ab_AV} {σ : ab_SG} (h : G 14 [some (2, 93, 0), some (0, 0, b0)] [] σ) : G 47 [some (2, 93, 0), o1] [(0, 0, b0)] σ := fw_on hG [4, 14, 20, 27, 31, 47] 200 h
abbrev fk_m_seBr6 : List fw_CR := [(168, 1, true, 11, 0, sp_m_bad), (182, 0, true, 11, 1, sp_m_go), (185, 1, true, 11, 0, sp_m_isSign), (522, 0, true, 11, 31, sp_m_seOr 6)]
abbrev st_m_seBr6 : fw_K → fw_KR → fw_K := fw_st vwCl nn_sh nn_kd fw_kv fw_wc (nn_KI20.map (fun x => x.1)) (nn_KJ20.map (fun x => x.1)) (nn_PF20.map (fun x => x.1)) (nn_PS20.map (fun x => x.1)) fk_m_seBr6 32 nn_dt345 1 1
theorem fs_m_seBr6_0 {G : fw_K} {R : fw_KR} (hG : fw_cls st_m_seBr6 R G) {σ : ab_SG} (h : sp_m_seOr 6 [(2, 93, 0)] σ (fun rv σ2 => G 4 [some (2, 93, 0)] (rv.toList ++ []) σ2)) : G 0 [some (2, 93, 0)] [] σ := fw_on hG [4, 15, 23, 28] 200 h
theorem fs_m_seBr6_4 {G : fw_K} {R : fw_KR} (hG : fw_cls st_m_seBr6 R G) {b0 : Int} {σ : ab_SG} (h : (fw_c b0 ≠ 0 → sp_m_isSign [(2, 93, 0), (0, 0, 41)] σ (fun rv σ2 => G 15 [some (2, 93, 0)] (rv.toList ++ []) σ2)) ∧ (fw_c b0 = 0 → (0 ≤ fw_c 0 ∧ fw_c 0 ≤ 1) ∧ R (some (0, 0, 0)) σ)) : G 4 [some (2, 93, 0)] [(0, 0, b0)] σ := fw_on hG [4, 15, 23, 28] 200 h
theorem fs_m_seBr6_15 {G : fw_K} {R : fw_KR} (hG : fw_cls st_m_seBr6 R G) {b0 : Int} {σ : ab_SG} (h : (fw_c b0 ≠ 0 → sp_m_go [(2, 93, 0)] σ (fun rv σ2 => G 28 [some (2, 93, 0)] (rv.toList ++ []) σ2)) ∧ (fw_c b0 = 0 → sp_m_bad [(2, 93, 0), (0, 0, 1)] σ (fun rv σ2 => G 23 [some (2, 93, 0)] (rv.toList ++ []) σ2))) : G 15 [some (2, 93, 0)] [(0, 0, b0)] σ := fw_on hG [4, 15, 23, 28] 200 h
theorem fs_m_seBr6_28 {G : fw_K} {R : fw_KR} (hG : fw_cls st_m_seBr6 R G) {σ : ab_SG} (h : (0 ≤ fw_c 1 ∧ fw_c 1 ≤ 1) ∧ R (some (0, 0, 1)) σ) : G 28 [some (2, 93, 0)] [] σ := fw_on hG [4, 15, 23, 28] 200 h
theorem fs_m_seBr6_23 {G : fw_K} {R : fw_KR} (hG : fw_cls st_m_seBr6 R G) {b0 : Int} {σ : ab_SG} (h : (0 ≤ fw_c b0 ∧ fw_c b0 ≤ 1) ∧ R (some (0, 0, b0)) σ) : G 23 [some (2, 93, 0)] [(0, 0, b0)] σ := fw_on hG [4, 15, 23, 28] 200 h
abbrev fk_m_seNot6 : List fw_CR := [(498, 4, true, 11, 0, sp_m_saysOne), (501, 0, true, 11, 29, sp_m_seOne 6)]
abbrev st_m_seNot6 : fw_K → fw_KR → fw_K := fw_st vwCl nn_sh nn_kd fw_kv fw_wc (nn_KI20.map (fun x => x.1)) (nn_KJ20.map (fun x => x.1)) (nn_PF20.map (fun x => x.1)) (nn_PS20.map (fun x => x.1)) fk_m_seNot6 30 nn_dt346 1 1
theorem fs_m_seNot6_0 {G : fw_K} {R : fw_KR} (hG : fw_cls st_m_seNot6 R G) {σ : ab_SG} (h : sp_m_seOne 6 [(2, 93, 0)] σ (fun rv σ2 => G 4 [some (2, 93, 0)] (rv.toList ++ []) σ2)) : G 0 [some (2, 93, 0)] [] σ := fw_on hG [4, 21] 200 h
theorem fs_m_seNot6_4 {G : fw_K} {R : fw_KR} (hG : fw_cls st_m_seNot6 R G) {b0 : Int} {σ : ab_SG} (h : (fw_c b0 ≠ 0 → sp_m_saysOne [(2, 93, 0), (0, 0, 1), (0, 0, σ 93 62), (0, 0, 0), (0, 0, 0)] σ (fun rv σ2 => G 21 [some (2, 93, 0)] (rv.toList ++ [(2, 93, 0)]) σ2)) ∧ (fw_c b0 = 0 → (0 ≤ fw_c 0 ∧ fw_c 0 ≤ 1) ∧ R (some (0, 0, 0)) σ)) : G 4 [some (2, 93, 0)] [(0, 0, b0)] σ := fw_on hG [4, 21] 200 h
theorem fs_m_seNot6_21 {G : fw_K} {R : fw_KR} (hG : fw_cls st_m_seNot6 R G) {b0 : Int} {σ : ab_SG} (h : (0 ≤ fw_c 1 ∧ fw_c 1 ≤ 1) ∧ R (some (0, 0, 1)) (ab_ups σ 93 62 (fw_c b0))) : G 21 [some (2, 93, 0)] [(0, 0, b0), (2, 93, 0)] σ := fw_on hG [4, 21] 200 h
section
variable {l : Launch} {cy : Nat → ClassId} {ad wr cr : Nat → Nat} {D : va_G}
theorem fm_m_seOne6 (hinj : nn_inj ad) : fw_H l cy ad wr cr D 344 29 (sp_m_seOne 6) := fw_mk hinj (⟨"NameNotesModel", "readOne", "()Z"⟩, prog_14_method_142_code, 4, (Option.some Jvm.ClassFile.FieldType.boolean), 0, true, 1) rfl rfl nn_KI20_ok nn_KJ20_ok nn_PF20_ok nn_PS20_ok (by decide +kernel) rfl rfl (List.forall_mem_cons.mpr ⟨fw_row nn_PM20_ok (x := 168) (k := 0) (mn := 221) (np := 1) (ob := true) (ci := 11) (⟨"NameNotesModel", "bad", "(I)Z"⟩, prog_14_method_23_code, 2, (Option.some Jvm.ClassFile.FieldType.boolean), 1, true, 1) rfl (by decide +kernel) rfl rfl (by decide) (fun _ => ⟨_, _, rfl⟩) (fm_m_bad hinj), (List.forall_mem_cons.mpr ⟨fw_row nn_PM20_ok (x := 182) (k := 0) (mn := 212) (np := 0) (ob := true) (ci := 11) (⟨"NameNotesModel", "go", "()V"⟩, prog_14_method_17_code, 5, (Option.none : Option Jvm.ClassFile.FieldType), 0, true, 4) rfl (by decide +kernel) rfl rfl (by decide) (fun _ => ⟨_, _, rfl⟩) (fm_m_go hinj), (List.forall_mem_cons.mpr ⟨fw_row nn_PM20_ok (x := 185) (k := 0) (mn := 236) (np := 1) (ob := true) (ci := 11) (⟨"NameNotesModel", "isSign", "(I)Z"⟩, prog_14_method_21_code, 2, (Option.some Jvm.ClassFile.FieldType.boolean), 1, true, 1) rfl (by decide +kernel) rfl rfl (by decide) (fun _ => ⟨_, _, rfl⟩) (fm_m_isSign hinj), (List.forall_mem_cons.mpr ⟨fw_row nn_PM20_ok (x := 225) (k := 0) (mn := 217) (np := 1) (ob := true) (ci := 11) (⟨"NameNotesModel", "isWord", "(I)Z"⟩, prog_14_method_20_code, 2, (Option.some Jvm.ClassFile.FieldType.boolean), 1, true, 1) rfl (by decide +kernel) rfl rfl (by decide) (fun _ => ⟨_, _, rfl⟩) (fm_m_isWord hinj), (List.forall_mem_cons.mpr ⟨fw_row nn_PM20_ok (x := 261) (k := 0) (mn := 240) (np := 0) (ob := true) (ci := 11) (⟨"NameNotesModel", "tunes", "()I"⟩, prog_14_method_41_code, 1, (Option.some Jvm.ClassFile.FieldType.int), 0, true, 0) rfl (by decide +kernel) rfl rfl (by decide) (fun _ => ⟨_, _, rfl⟩) (fm_m_tunes hinj), (List.forall_mem_cons.mpr ⟨fw_row nn_PM20_ok (x := 510) (k := 0) (mn := 345) (np := 0) (ob := true) (ci := 11) (⟨"NameNotesModel", "readBracket", "()Z"⟩, prog_14_method_144_code, 1, (Option.some Jvm.ClassFile.FieldType.boolean), 0, true, 1) rfl (by decide +kernel) rfl rfl (by decide) (fun _ => ⟨_, _, rfl⟩) (fm_m_seBr5 hinj), (List.forall_mem_cons.mpr ⟨fw_row nn_PM20_ok (x := 513) (k := 0) (mn := 346) (np := 0) (ob := true) (ci := 11) (⟨"NameNotesModel", "readNot", "()Z"⟩, prog_14_method_143_code, 1, (Option.some Jvm.ClassFile.FieldType.boolean), 0, true, 1) rfl (by decide +kernel) rfl rfl (by decide) (fun _ => ⟨_, _, rfl⟩) (fm_m_seNot5 hinj), (List.forall_mem_cons.mpr ⟨fw_row nn_PM20_ok (x := 516) (k := 0) (mn := 348) (np := 3) (ob := true) (ci := 11) (⟨"NameNotesModel", "readOf", "(III)Z"⟩, prog_14_method_145_code, 5, (Option.some Jvm.ClassFile.FieldType.boolean), 3, true, 1) rfl (by decide +kernel) rfl rfl (by decide) (fun _ => ⟨_, _, rfl⟩) (fm_m_seOf hinj), (List.forall_mem_cons.mpr ⟨fw_row nn_PM20_ok (x := 519) (k := 0) (mn := 349) (np := 1) (ob := true) (ci := 11) (⟨"NameNotesModel", "readCompare", "(I)Z"⟩, prog_14_method_146_code, 3, (Option.some Jvm.ClassFile.FieldType.boolean), 1, true, 1) rfl (by decide +kernel) rfl rfl (by decide) (fun _ => ⟨_, _, rfl⟩) (fm_m_seCmp hinj), (fun _ h => absurd h List.not_mem_nil)⟩)⟩)⟩)⟩)⟩)⟩)⟩)⟩)⟩) (fun as σ K h => by
  obtain ⟨A, e, p, o, z, rfl, ⟨hN, hm, hs, ho⟩, h0, h1⟩ := h
  have c16 : fw_c 16 = 16 := fw_s (by decide) (by decide)
  have c20 : fw_c 20 = 20 := fw_s (by decide) (by decide)
  have c8 : fw_c 8 = 8 := fw_s (by decide) (by decide)
  have c60 : fw_c (σ 93 60) = (o : Int) := by rw [hs.1]; exact fw_s (by omega) (by omega)
  have c61 : fw_c (σ 93 61) = ((8 - 6 : Nat) : Int) := by rw [hs.2.1]; exact fw_s (by decide) (by decide)
  have u0 : ∀ {X : Prop}, fw_c 0 ≠ 0 → X := fun z => absurd fw_c0 z
  have u1 : ∀ {X : Prop}, fw_c 1 = 0 → X := fun z => absurd (fw_c1.symm.trans z) (by decide)
  have n40 : (tk e p).1 = 40 → ¬ (9 ≤ tw e p ∧ tw e p ≤ 16) := fun z y => by
    have := tw_k (e := e) (p := p) (by omega)
    omega
  refine ⟨rfl, fun G hG => ?_⟩
  -- too many, too deep
  have g64 : sn_st e p → sn_one A e 6 o p = (4, ev_st e p, o, p) → ∀ (o1 o3 : Option ab_AV) (w : Int), G 64 [some (2, 93, 0), o1, some (0, 0, w), o3] [] σ := fun y en o1 o3 w => by
    rw [en] at h0
    refine fs_m_seOne6_64 hG (mp_bad hm.1 (by decide) (fun σ' hM h10 h11 => fs_m_seOne6_69 hG ⟨fw_01, h0 (show (4 : Int) ≠ 0 by decide) σ' (ev_up hM (by decide)) ?_ h11⟩))
    have k : ¬ σ 93 7 = 1 := fun q => by
      have g := (mg_kind hm.1).2.2.1.mp q
      rcases y with y | y
      · omega
      · have := tw_k (e := e) (p := p) (by omega)
        omega
    rw [h10, if_neg k]
  have g46 : ∀ (b w : Int) (o3 : Option ab_AV), sn_st e p → ((b = 1 ∧ (tk e p).1 = 40) ∨ (b = 0 ∧ (tk e p).1 ≠ 40 ∧ w = tw e p)) → (0 ≤ w ∧ w ≤ 17) → G 46 [some (2, 93, 0), some (0, 0, b), some (0, 0, w), o3] [] σ := by
    intro b w o3 y hb hw
    refine fs_m_seOne6_46 hG ?_
    rw [c60, c61, c20, c8]
    refine ⟨fun q => g64 y ?_ _ o3 w, fun q => ⟨fun _ => ?_, fun q2 => absurd q2 (by decide)⟩⟩
    · rw [show sn_one A e 6 o p = _ from sn_one_s A e 5 o p, if_neg (fun u => u y), if_pos (by omega)]
    have en : sn_one A e 6 o p = _ := sn_one_s A e 5 o p
    rw [if_neg (fun u => u y), if_neg (by omega)] at en
    have ln : sl_one A e 6 o p = _ := sl_one_s A e 5 o p
    have co : fw_c (σ 93 60 + 1) = ((o + 1 : Nat) : Int) := by rw [hs.1]; exact fw_s (x := (o : Int) + 1) (by omega) (by omega)
    have cd : fw_c (σ 93 61 + 1) = ((8 - 5 : Nat) : Int) := by rw [hs.2.1]; exact fw_s (x := ((8 - 6 : Nat) : Int) + 1) (by decide) (by decide)
    rw [co, cd]
    have hm1 : mt_is (ab_ups (ab_ups σ 93 60 ((o + 1 : Nat) : Int)) 93 61 ((8 - 5 : Nat) : Int)) e p := mt_ups (mt_ups hm (Or.inr ⟨rfl, by decide⟩)) (Or.inr ⟨rfl, by decide⟩)
    have s1 : sm_is (ab_ups (ab_ups σ 93 60 ((o + 1 : Nat) : Int)) 93 61 ((8 - 5 : Nat) : Int)) (o + 1) (8 - 5) (z + 2) := ⟨(ab_ups_ne (by decide)).trans ab_ups_eq, ab_ups_eq, by rw [ab_ups_ne (by decide), ab_ups_ne (by decide)]; have := hs.2.2; omega⟩
    have M1 : ab_okM sm_M σ (ab_ups (ab_ups σ 93 60 ((o + 1 : Nat) : Int)) 93 61 ((8 - 5 : Nat) : Int)) := fw_okM_ups (fw_okM_ups (fw_okM_refl _ _) (by decide)) (by decide)
    have Q1 : gq σ (ab_ups (ab_ups σ 93 60 ((o + 1 : Nat) : Int)) 93 61 ((8 - 5 : Nat) : Int)) := gq_tr (gq_k (M := [(93, 60)]) okM_one (by decide)) (gq_k (M := [(93, 61)]) okM_one (by decide))
    generalize ab_ups (ab_ups σ 93 60 ((o + 1 : Nat) : Int)) 93 61 ((8 - 5 : Nat) : Int) = σ1 at hm1 s1 M1 Q1 ⊢
    refine mt_go hm1 (fun σ2 N2 hm2 => fs_m_seOne6_94 hG ?_)
    have q2 : gq σ σ2 := gq_tr Q1 (gq_k N2 (by decide))
    have M2 : ab_okM sm_M σ σ2 := ev_tr M1 (ev_up N2 (by decide))
    have s2 : sm_is σ2 (o + 1) (8 - 5) (z + 2) := sm_k s1 N2 (by decide)
    have N2' : NM σ2 A := sm_NM M2 hN
    have no : ∀ r : sn_T, sn_one A e 6 o p = r → r.1 ≠ 0 → ∀ σ' : ab_SG, ab_okM sm_M σ2 σ' → σ' 93 10 = r.1 → σ' 93 11 = r.2.1 → ∀ o1 : Option ab_AV, G 194 [some (2, 93, 0), o1, some (0, 0, w), some (0, 0, 0)] [] σ' := fun r er q σ' M a b o1 => by
      rw [er] at h0
      exact fs_m_seOne6_194 hG ⟨fw_01, h0 q _ (fw_okM_ups (ev_tr M2 M) (by decide)) ((ab_ups_ne (by decide)).trans a) ((ab_ups_ne (by decide)).trans b)⟩
    have ok : ∀ (r : sn_T) (L : sl_T), sn_one A e 6 o p = r → sl_one A e 6 o p = L → r.1 = 0 → ∀ (σ' : ab_SG) (zz h9 : Nat), z + 1 ≤ zz → h9 ≤ r.2.2.1 - o → ab_okM sm_M σ2 σ' → mt_is σ' e r.2.2.2 → sm_is σ' r.2.2.1 (8 - 5) zz → sr σ2 σ' h9 L → ∀ o1 : Option ab_AV, G 194 [some (2, 93, 0), o1, some (0, 0, w), some (0, 0, 1)] [] σ' := fun r L er el q σ' zz h9 hz hh M hm' s' R o1 => by
      rw [er, el] at h1
      have cv : fw_c (σ' 93 61 - 1) = ((8 - 6 : Nat) : Int) := by rw [s'.2.1]; exact fw_s (x := ((8 - 5 : Nat) : Int) - 1) (by decide) (by decide)
      refine fs_m_seOne6_194 hG ⟨fw_11, ?_⟩
      rw [cv]
      exact h1 q _ (fw_okM_ups (ev_tr M2 M) (by decide)) (mt_ups hm' (Or.inr ⟨rfl, by decide⟩)) ⟨(ab_ups_ne (by decide)).trans s'.1, ab_ups_eq, by rw [ab_ups_ne (by decide)]; have := s'.2.2; omega⟩ (sr_k (M := [(93, 61)]) (sr_l q2 hh R) okM_one (by decide))
    have cw : fw_c w = w := fw_s (by omega) (by omega)
    have c9 : fw_c 9 = 9 := fw_s (by decide) (by decide)
    have c10 : fw_c 10 = 10 := fw_s (by decide) (by decide)
    have c11 : fw_c 11 = 11 := fw_s (by decide) (by decide)
    have c12 : fw_c 12 = 12 := fw_s (by decide) (by decide)
    have c2 : fw_c 2 = 2 := fw_s (by decide) (by decide)
    have t1 : (fw_c 1).toNat = 1 := by rw [fw_c1]; rfl
    have t2 : (fw_c 2).toNat = 2 := by rw [c2]; rfl
    have nn := hN.1
    rw [cw, c9, c10, c11, c12, t1, t2, c2, fw_c1]
    refine ⟨fun q5 => ?_, fun q5 => ?_⟩
    · obtain ⟨n4, ew⟩ : (tk e p).1 ≠ 40 ∧ w = tw e p := by
        rcases hb with ⟨b1, -⟩ | ⟨-, k⟩
        · rw [b1] at q5
          exact u1 q5
        · exact k
      rw [if_neg n4] at en ln
      refine ⟨fun w9 => ⟨fun w10 => ⟨fun w11 => ⟨fun w12 => ?_, fun w12 => ⟨rfl, fs_m_seOne6_181 hG ?_⟩⟩, fun w11 => ⟨by decide, ?_⟩⟩, fun w10 => ⟨by decide, ?_⟩⟩, fun w9 => ?_⟩
      · rw [if_neg (by omega), if_neg (by omega), if_neg (by omega), if_neg (by omega)] at en ln
        have wk : 13 ≤ tw e p ∧ tw e p ≤ 16 := by
          have y2 := y.resolve_left n4
          omega
        rw [sk_13 wk, ← ew] at ln
        rw [← ew] at wk
        exact ⟨e, tn e p, o + 1, 8 - 5, z + 1, _, rfl, hm2, ⟨s2, by omega⟩, wk, fun q σ' M a b => fs_m_seOne6_193 hG (no _ en q σ' M a b _), fun q σ' M a b c => fs_m_seOne6_193 hG (ok _ _ en ln q σ' (z + 1) 1 (Nat.le_refl _) (by rw [sn_ms_0 q]; show 1 ≤ o + 1 - o; omega) M a b c _)⟩
      · rw [if_neg (by omega), if_neg (by omega), if_neg (by omega), if_pos (by omega), show (5 : Int) = w - 7 by omega] at ln
        rw [if_neg (by omega), if_neg (by omega), if_neg (by omega), if_pos (by omega)] at en
        rw [(NM_n N2').1]
        exact ⟨A, e, tn e p, o + 1, 8 - 5, z + 1, 0, 57, _, _, rfl, hm2, ⟨s2, by omega⟩, rm_11 N2', ⟨nn.1.1, by omega, by omega⟩, ⟨by omega, by omega⟩, fun q σ' M a b => fs_m_seOne6_184 hG (no _ en q σ' M a b _), fun q σ' M a b c => fs_m_seOne6_184 hG (ok _ _ en ln q σ' (z + 1) 1 (Nat.le_refl _) (by rw [(sn_nm_0 q).2]; show 1 ≤ o + 1 - o; omega) M a b c _)⟩
      · rw [if_neg (by omega), if_neg (by omega), if_pos (by omega), show (4 : Int) = w - 7 by omega] at ln
        rw [if_neg (by omega), if_neg (by omega), if_pos (by omega)] at en
        rw [(NM_n N2').2.2]
        exact ⟨A, e, tn e p, o + 1, 8 - 5, z + 1, 15, 59, _, _, rfl, hm2, ⟨s2, by omega⟩, rm_13 N2', ⟨nn.2.2.1.1, by omega, by omega⟩, ⟨by omega, by omega⟩, fun q σ' M a b => fs_m_seOne6_164 hG (no _ en q σ' M a b _), fun q σ' M a b c => fs_m_seOne6_164 hG (ok _ _ en ln q σ' (z + 1) 1 (Nat.le_refl _) (by rw [(sn_nm_0 q).2]; show 1 ≤ o + 1 - o; omega) M a b c _)⟩
      · rw [if_neg (by omega), if_pos (by omega), show (3 : Int) = w - 7 by omega] at ln
        rw [if_neg (by omega), if_pos (by omega)] at en
        rw [(NM_n N2').2.1]
        exact ⟨A, e, tn e p, o + 1, 8 - 5, z + 1, 9, 58, _, _, rfl, hm2, ⟨s2, by omega⟩, rm_12 N2', ⟨nn.2.1.1, by omega, by omega⟩, ⟨by omega, by omega⟩, fun q σ' M a b => fs_m_seOne6_141 hG (no _ en q σ' M a b _), fun q σ' M a b c => fs_m_seOne6_141 hG (ok _ _ en ln q σ' (z + 1) 1 (Nat.le_refl _) (by rw [(sn_nm_0 q).2]; show 1 ≤ o + 1 - o; omega) M a b c _)⟩
      · rw [if_pos (by omega)] at en ln
        exact ⟨A, e, tn e p, o + 1, z + 2, rfl, ⟨N2', hm2, s2, by omega⟩, fun q σ' M a b => fs_m_seOne6_118 hG (no _ en q σ' M a b _), fun q σ' M a b c => fs_m_seOne6_118 hG (ok _ _ en ln q σ' (z + 2) _ (by omega) (by have g := (sn_one_gr A e 5 (o + 1) (tn e p) (by omega) q).1; omega) M a b c _)⟩
    · have n4 : (tk e p).1 = 40 := by
        rcases hb with ⟨-, k⟩ | ⟨b0, -⟩
        · exact k
        · rw [b0] at q5
          exact u0 q5
      rw [if_pos n4] at en ln
      exact ⟨A, e, tn e p, o + 1, z + 2, rfl, ⟨N2', hm2, s2, by omega⟩, fun q σ' M a b => fs_m_seOne6_104 hG (no _ en q σ' M a b _), fun q σ' M a b c => fs_m_seOne6_104 hG (ok _ _ en ln q σ' (z + 3) _ (by omega) (by omega) M a b c _)⟩
  have g30 : ∀ (b w : Int) (o3 : Option ab_AV), ((b = 1 ∧ (tk e p).1 = 40) ∨ (b = 0 ∧ (tk e p).1 ≠ 40)) → ((w = tw e p ∧ 9 ≤ w ∧ w ≤ 16) ∨ (w = 17 ∧ ¬ (9 ≤ tw e p ∧ tw e p ≤ 16))) → G 30 [some (2, 93, 0), some (0, 0, b), some (0, 0, w), o3] [] σ := by
    intro b w o3 hb hw
    have cw : fw_c w = w := fw_s (by omega) (by omega)
    refine fs_m_seOne6_30 hG ?_
    rw [cw, c16]
    refine ⟨fun q => ?_, fun q => ⟨fun q2 => ?_, fun q2 => ?_⟩⟩
    · rcases hb with ⟨b1, k⟩ | ⟨b0, -⟩
      · exact g46 b w o3 (Or.inl k) (Or.inl ⟨b1, k⟩) ⟨by omega, by omega⟩
      · rw [b0] at q
        exact u0 q
    · rcases hb with ⟨b1, -⟩ | ⟨b0, k⟩
      · rw [b1] at q
        exact u1 q
      · exact g46 b w o3 (Or.inr ⟨by omega, by omega⟩) (Or.inr ⟨b0, k, by omega⟩) ⟨by omega, by omega⟩
    · rcases hb with ⟨b1, -⟩ | ⟨b0, k⟩
      · rw [b1] at q
        exact u1 q
      · have ns : ¬ sn_st e p := fun y => by
          rcases y with y | y
          · exact k y
          · omega
        have en : sn_one A e 6 o p = (1, ev_st e p, o, p) := (sn_one_s A e 5 o p).trans (if_pos ns)
        rw [en] at h0
        refine mp_bad hm.1 (by decide) (fun σ' hM h10 h11 => fs_m_seOne6_45 hG ⟨fw_01, h0 (show (1 : Int) ≠ 0 by decide) σ' (ev_up hM (by decide)) ?_ h11⟩)
        rw [h10]
        split <;> rfl
  have lw : ∀ (f w : Nat) (b : Int) (o3 : Option ab_AV), w + f = 17 → 9 ≤ w → (∀ v : Nat, 9 ≤ v → v < w → tw e p ≠ (v : Int)) → ((b = 1 ∧ (tk e p).1 = 40) ∨ (b = 0 ∧ (tk e p).1 ≠ 40)) → G 10 [some (2, 93, 0), some (0, 0, b), some (0, 0, (w : Int)), o3] [] σ := by
    intro f
    induction f with
    | zero =>
      intro w b o3 hf h9 hv hb
      have ew : w = 17 := by omega
      subst ew
      refine fs_m_seOne6_10 hG ⟨fun _ => g30 b _ o3 hb (Or.inr ⟨rfl, fun y => ?_⟩), fun q => absurd q (by rw [c16]; decide)⟩
      have := hv (tw e p).toNat (by omega) (by omega)
      omega
    | succ f ih =>
      intro w b o3 hf h9 hv hb
      have cw : fw_c (w : Int) = (w : Int) := fw_s (by omega) (by omega)
      refine fs_m_seOne6_10 hG ⟨fun q => absurd q (by rw [c16, cw]; omega), fun _ => ⟨w, e, p, rfl, by omega, hm.1, ?_⟩⟩
      by_cases c : tw e p = (w : Int)
      · rw [fw_bo_t c]
        exact fs_m_seOne6_21 hG ⟨fun _ => g30 b _ o3 hb (Or.inl ⟨c.symm, by omega, by omega⟩), u1⟩
      · rw [fw_bo_f c]
        refine fs_m_seOne6_21 hG ⟨u0, fun _ => ?_⟩
        have g := ih (w + 1) b o3 (by omega) (by omega) (fun v h1 h2 => by
          by_cases y : v = w
          · rw [y]
            exact c
          · exact hv v h1 (by omega)) hb
        rw [show ((w + 1 : Nat) : Int) = (w : Int) + 1 from rfl] at g
        exact g
  refine fs_m_seOne6_0 hG ⟨40, e, p, rfl, Or.inr (Or.inr (Or.inl rfl)), hm.1, ?_⟩
  by_cases c : (tk e p).1 = 40
  · rw [fw_bo_t c]
    exact fs_m_seOne6_6 hG (lw 8 9 1 _ rfl (by decide) (fun v h1 h2 => by omega) (Or.inl ⟨rfl, c⟩))
  · rw [fw_bo_f c]
    exact fs_m_seOne6_6 hG (lw 8 9 0 _ rfl (by decide) (fun v h1 h2 => by omega) (Or.inr ⟨rfl, c⟩)))
theorem fm_m_seNot6 (hinj : nn_inj ad) : fw_H l cy ad wr cr D 346 30 (sp_m_seNot 6) := fw_mk hinj (⟨"NameNotesModel", "readNot", "()Z"⟩, prog_14_method_143_code, 1, (Option.some Jvm.ClassFile.FieldType.boolean), 0, true, 1) rfl rfl nn_KI20_ok nn_KJ20_ok nn_PF20_ok nn_PS20_ok (by decide +kernel) rfl rfl (List.forall_mem_cons.mpr ⟨fw_row nn_PM20_ok (x := 498) (k := 0) (mn := 347) (np := 4) (ob := true) (ci := 11) (⟨"NameNotesModel", "saysOne", "(IIII)I"⟩, prog_14_method_139_code, 6, (Option.some Jvm.ClassFile.FieldType.int), 4, true, 0) rfl (by decide +kernel) rfl rfl (by decide) (fun _ => ⟨_, _, rfl⟩) (fm_m_saysOne hinj), (List.forall_mem_cons.mpr ⟨fw_row nn_PM20_ok (x := 501) (k := 0) (mn := 344) (np := 0) (ob := true) (ci := 11) (⟨"NameNotesModel", "readOne", "()Z"⟩, prog_14_method_142_code, 4, (Option.some Jvm.ClassFile.FieldType.boolean), 0, true, 1) rfl (by decide +kernel) rfl rfl (by decide) (fun _ => ⟨_, _, rfl⟩) (fm_m_seOne6 hinj), (fun _ h => absurd h List.not_mem_nil)⟩)⟩) (fun as σ K h => by
  obtain ⟨A, e, p, o, z, rfl, hp, h0, h1⟩ := h
  have u0 : ∀ {X : Prop}, fw_c 0 ≠ 0 → X := fun z => absurd fw_c0 z
  have u1 : ∀ {X : Prop}, fw_c 1 = 0 → X := fun z => absurd (fw_c1.symm.trans z) (by decide)
  refine ⟨rfl, fun G hG => fs_m_seNot6_0 hG ⟨A, e, p, o, z, rfl, hp, fun q σ' M a b => fs_m_seNot6_4 hG ⟨u0, fun _ => ⟨fw_01, h0 q σ' M a b⟩⟩, fun q σ1 M1 hm1 s1 R1 => fs_m_seNot6_4 hG ⟨fun _ => ⟨_, _, _, _, rfl, ⟨s1.2.2.1, ?_⟩, fun v σ2 M2 e59 ev hd => fs_m_seNot6_21 hG ⟨fw_11, ?_⟩⟩, u1⟩⟩⟩
  · have gr := (sn_one_gr A e 6 o p hp.2.2.2 q).2
    have := s1.2.2.2
    omega
  · exact h1 q _ (fw_okM_ups (ev_tr M1 (ev_up M2 (by decide))) (by decide)) (mt_ups (mt_M hm1 M2 (by decide) (by decide)) (Or.inr ⟨rfl, by decide⟩)) (sm_k (M := [(93, 62)]) (sm_s s1 M2 e59) okM_one (by decide)) (by
      have gr := (sn_one_gr A e 6 o p hp.2.2.2 q).2
      have b59 := s1.2.2
      refine sr_top (gq_tr R1.1 (ne_g e59 hd)) (by omega) ?_
      rw [ev]
      exact rp_not ⟨b59.1, by omega⟩ R1.2 e59 hd))
theorem fm_m_seAnd6 (hinj : nn_inj ad) : fw_H l cy ad wr cr D 343 30 (sp_m_seAnd 6) := fw_mk hinj (⟨"NameNotesModel", "readAnd", "()Z"⟩, prog_14_method_141_code, 2, (Option.some Jvm.ClassFile.FieldType.boolean), 0, true, 1) rfl rfl nn_KI20_ok nn_KJ20_ok nn_PF20_ok nn_PS20_ok (by decide +kernel) rfl rfl (List.forall_mem_cons.mpr ⟨fw_row nn_PM20_ok (x := 182) (k := 0) (mn := 212) (np := 0) (ob := true) (ci := 11) (⟨"NameNotesModel", "go", "()V"⟩, prog_14_method_17_code, 5, (Option.none : Option Jvm.ClassFile.FieldType), 0, true, 4) rfl (by decide +kernel) rfl rfl (by decide) (fun _ => ⟨_, _, rfl⟩) (fm_m_go hinj), (List.forall_mem_cons.mpr ⟨fw_row nn_PM20_ok (x := 225) (k := 0) (mn := 217) (np := 1) (ob := true) (ci := 11) (⟨"NameNotesModel", "isWord", "(I)Z"⟩, prog_14_method_20_code, 2, (Option.some Jvm.ClassFile.FieldType.boolean), 1, true, 1) rfl (by decide +kernel) rfl rfl (by decide) (fun _ => ⟨_, _, rfl⟩) (fm_m_isWord hinj), (List.forall_mem_cons.mpr ⟨fw_row nn_PM20_ok (x := 498) (k := 0) (mn := 347) (np := 4) (ob := true) (ci := 11) (⟨"NameNotesModel", "saysOne", "(IIII)I"⟩, prog_14_method_139_code, 6, (Option.some Jvm.ClassFile.FieldType.int), 4, true, 0) rfl (by decide +kernel) rfl rfl (by decide) (fun _ => ⟨_, _, rfl⟩) (fm_m_saysOne hinj), (List.forall_mem_cons.mpr ⟨fw_row nn_PM20_ok (x := 501) (k := 0) (mn := 344) (np := 0) (ob := true) (ci := 11) (⟨"NameNotesModel", "readOne", "()Z"⟩, prog_14_method_142_code, 4, (Option.some Jvm.ClassFile.FieldType.boolean), 0, true, 1) rfl (by decide +kernel) rfl rfl (by decide) (fun _ => ⟨_, _, rfl⟩) (fm_m_seOne6 hinj), (fun _ h => absurd h List.not_mem_nil)⟩)⟩)⟩)⟩) (fun as σ K h => by
  obtain ⟨A, e, p, o, z, g, rfl, ⟨hN, hm, hs, ho⟩, hg, h⟩ := h
  obtain ⟨h0, h1⟩ := h _ rfl
  have u0 : ∀ {X : Prop}, fw_c 0 ≠ 0 → X := fun z => absurd fw_c0 z
  have u1 : ∀ {X : Prop}, fw_c 1 = 0 → X := fun z => absurd (fw_c1.symm.trans z) (by decide)
  have og := sn_one_gr A e 6
  refine ⟨rfl, fun G hG => fs_m_seAnd6_0 hG ⟨A, e, p, o, z, rfl, ⟨hN, hm, hs, ho⟩, fun q σ' M a b => fs_m_seAnd6_4 hG ⟨u0, fun _ => ⟨fw_01, ?_⟩⟩, fun q σ1 M1 hm1 s1 R1 => fs_m_seAnd6_4 hG ⟨fun _ => ?_, u1⟩⟩⟩
  · rw [if_pos q] at h0
    exact h0 q σ' M a b
  · rw [if_neg (fun u => u q)] at h0 h1
    have gr := og o p ho q
    have loop : ∀ (f g1 o1 p1 : Nat) (τ : ab_SG) (a1 : Int) (LA : sl_T), 20 < f + o1 → 21 ≤ g1 + o1 → o + 1 ≤ o1 → o1 ≤ 20 → ab_okM sm_M σ τ → mt_is τ e p1 → sm_is τ o1 (8 - 6) (z + 1) → gq σ τ → rp (τ 121) (τ 93 59) (o1 - o) a1 LA → (∀ w : Bool, sl_one A e 6 o p ++ sl_lp (sn_one A e 6) (sl_one A e 6) e g w (sn_one A e 6 o p).2.2.1 (sn_one A e 6 o p).2.2.2 = LA ++ sl_lp (sn_one A e 6) (sl_one A e 6) e g1 w o1 p1) → sn_lp (sn_one A e 6) e g (sn_one A e 6 o p).2.2.1 (sn_one A e 6 o p).2.2.2 = sn_lp (sn_one A e 6) e g1 o1 p1 → G 14 [some (2, 93, 0), some (0, 0, a1)] [] τ := by
      intro f
      induction f with
      | zero =>
        intro g1 o1 p1 τ a1 LA hf _ _ h20 _ _ _ _ _ _ _
        omega
      | succ f ih =>
        intro g1 o1 p1 τ a1 LA hf hg1 ho1 h20 M hm' s' Q R hw hr
        refine fs_m_seAnd6_14 hG ⟨8, e, p1, rfl, by decide, hm'.1, ?_⟩
        show G 20 _ [(0, 0, fw_bo (tw e p1 = ((8 : Nat) : Int)))] τ
        by_cases c : tw e p1 = ((8 : Nat) : Int)
        · rw [fw_bo_t c]
          replace c : tw e p1 = 8 := c
          obtain ⟨g2, rfl⟩ : ∃ g2, g1 = g2 + 1 := ⟨g1 - 1, by omega⟩
          rw [sn_lps, if_pos (Or.inl c)] at hr
          refine fs_m_seAnd6_20 hG ⟨u1, fun _ => mt_go hm' (fun τ2 N2 hm2 => fs_m_seAnd6_27 hG ?_)⟩
          have M2 : ab_okM sm_M σ τ2 := ev_tr M (ev_up N2 (by decide))
          refine ⟨A, e, tn e p1, o1, z + 1, rfl, ⟨sm_NM M2 hN, hm2, sm_k s' N2 (by decide), h20⟩, fun q2 σ' M' a b => fs_m_seAnd6_31 hG ⟨u0, fun _ => ⟨fw_01, ?_⟩⟩, fun q2 τ3 M3 hm3 s3 R3 => fs_m_seAnd6_31 hG ⟨fun _ => ?_, u1⟩⟩
          · rw [if_pos q2] at hr
            rw [hr] at h0
            exact h0 q2 σ' (ev_tr M2 M') a b
          · rw [if_neg (fun u => u q2)] at hr
            have gr2 := og o1 (tn e p1) h20 q2
            have b59 := s3.2.2
            have Q3 : gq τ τ3 := gq_tr (gq_k N2 (by decide)) R3.1
            exact ⟨_, _, _, _, rfl, ⟨s3.2.2.1, by have := s3.2.2.2; omega⟩, fun v τ4 M4 e59 ev hd => fs_m_seAnd6_47 hG (ih g2 _ _ τ4 v (LA ++ (sl_one A e 6 o1 (tn e p1) ++ [(1, 0)])) (by omega) (by omega) (by omega) gr2.2 (ev_tr (ev_tr M2 M3) (ev_up M4 (by decide))) (mt_M hm3 M4 (by decide) (by decide)) (sm_s s3 M4 e59) (gq_tr (gq_tr Q Q3) (ne_g e59 hd)) (by
              rw [ev]
              exact rp_and (h := (sn_one A e 6 o1 (tn e p1)).2.2.1 - o) ⟨b59.1, by omega⟩ (rp_g Q3 (Nat.le_refl _) R) R3.2 e59 hd (by omega) (by omega)) (fun w => by
              rw [hw w, sl_lps, if_pos c, List.append_assoc, List.append_assoc]) hr)⟩
        · rw [fw_bo_f c]
          exact fs_m_seAnd6_20 hG ⟨fun _ => ⟨fw_11, h1 g1 o1 p1 _ hr c hg1 ho1 h20 (fw_okM_ups M (by decide)) (mt_ups hm' (Or.inr ⟨rfl, by decide⟩)) (sm_k (M := [(93, 62)]) s' okM_one (by decide)) LA hw (sr_top Q (by have := s'.2.2; omega) R)⟩, u0⟩
    exact loop 21 g _ _ σ1 _ _ (by omega) (by omega) gr.1 gr.2 M1 hm1 s1 R1.1 R1.2 (fun _ => rfl) rfl)
theorem fm_m_seOr6 (hinj : nn_inj ad) : fw_H l cy ad wr cr D 342 31 (sp_m_seOr 6) := fw_mk hinj (⟨"NameNotesModel", "readOr", "()Z"⟩, prog_14_method_140_code, 2, (Option.some Jvm.ClassFile.FieldType.boolean), 0, true, 1) rfl rfl nn_KI20_ok nn_KJ20_ok nn_PF20_ok nn_PS20_ok (by decide +kernel) rfl rfl (List.forall_mem_cons.mpr ⟨fw_row nn_PM20_ok (x := 182) (k := 0) (mn := 212) (np := 0) (ob := true) (ci := 11) (⟨"NameNotesModel", "go", "()V"⟩, prog_14_method_17_code, 5, (Option.none : Option Jvm.ClassFile.FieldType), 0, true, 4) rfl (by decide +kernel) rfl rfl (by decide) (fun _ => ⟨_, _, rfl⟩) (fm_m_go hinj), (List.forall_mem_cons.mpr ⟨fw_row nn_PM20_ok (x := 225) (k := 0) (mn := 217) (np := 1) (ob := true) (ci := 11) (⟨"NameNotesModel", "isWord", "(I)Z"⟩, prog_14_method_20_code, 2, (Option.some Jvm.ClassFile.FieldType.boolean), 1, true, 1) rfl (by decide +kernel) rfl rfl (by decide) (fun _ => ⟨_, _, rfl⟩) (fm_m_isWord hinj), (List.forall_mem_cons.mpr ⟨fw_row nn_PM20_ok (x := 492) (k := 0) (mn := 343) (np := 0) (ob := true) (ci := 11) (⟨"NameNotesModel", "readAnd", "()Z"⟩, prog_14_method_141_code, 2, (Option.some Jvm.ClassFile.FieldType.boolean), 0, true, 1) rfl (by decide +kernel) rfl rfl (by decide) (fun _ => ⟨_, _, rfl⟩) (fm_m_seAnd6 hinj), (List.forall_mem_cons.mpr ⟨fw_row nn_PM20_ok (x := 498) (k := 0) (mn := 347) (np := 4) (ob := true) (ci := 11) (⟨"NameNotesModel", "saysOne", "(IIII)I"⟩, prog_14_method_139_code, 6, (Option.some Jvm.ClassFile.FieldType.int), 4, true, 0) rfl (by decide +kernel) rfl rfl (by decide) (fun _ => ⟨_, _, rfl⟩) (fm_m_saysOne hinj), (fun _ h => absurd h List.not_mem_nil)⟩)⟩)⟩)⟩) (fun as σ K h => by
  obtain ⟨A, e, p, o, z, rfl, hp, h0, h1⟩ := h
  have u0 : ∀ {X : Prop}, fw_c 0 ≠ 0 → X := fun z => absurd fw_c0 z
  have u1 : ∀ {X : Prop}, fw_c 1 = 0 → X := fun z => absurd (fw_c1.symm.trans z) (by decide)
  refine ⟨rfl, fun G hG => ?_⟩
  have loop : ∀ (f g1 o1 p1 : Nat) (τ : ab_SG) (a1 : Int) (LO : sl_T), 20 < f + o1 → 21 ≤ g1 + o1 → o + 1 ≤ o1 → o1 ≤ 20 → tw e p1 ≠ 8 → ab_okM sm_M σ τ → mt_is τ e p1 → sm_is τ o1 (8 - 6) (z + 1) → gq σ τ → rp (τ 121) (τ 93 59) (o1 - o) a1 LO → sl_cd (sn_one A e 6) (sl_one A e 6) e o p = LO ++ sl_lp (sn_one A e 6) (sl_one A e 6) e g1 false o1 p1 → sn_cd (sn_one A e 6) e o p = sn_lp (sn_one A e 6) e g1 o1 p1 → G 14 [some (2, 93, 0), some (0, 0, a1)] [] τ := by
    intro f
    induction f with
    | zero =>
      intro g1 o1 p1 τ a1 LO hf _ _ h20 _ _ _ _ _ _ _ _
      omega
    | succ f ih =>
      intro g1 o1 p1 τ a1 LO hf hg1 ho1 h20 c8 M hm' s' Q R hw hr
      obtain ⟨g2, rfl⟩ : ∃ g2, g1 = g2 + 1 := ⟨g1 - 1, by omega⟩
      rw [sn_lps] at hr
      rw [sl_lps, if_neg c8] at hw
      refine fs_m_seOr6_14 hG ⟨7, e, p1, rfl, by decide, hm'.1, ?_⟩
      show G 20 _ [(0, 0, fw_bo (tw e p1 = ((7 : Nat) : Int)))] τ
      by_cases c : tw e p1 = ((7 : Nat) : Int)
      · rw [fw_bo_t c]
        replace c : tw e p1 = 7 := c
        rw [if_pos (Or.inr c)] at hr
        rw [if_pos c] at hw
        refine fs_m_seOr6_20 hG ⟨u1, fun _ => mt_go hm' (fun τ2 N2 hm2 => fs_m_seOr6_27 hG ?_)⟩
        have M2 : ab_okM sm_M σ τ2 := ev_tr M (ev_up N2 (by decide))
        refine ⟨A, e, tn e p1, o1, z + 1, g2, rfl, ⟨sm_NM M2 hp.1, hm2, sm_k s' N2 (by decide), h20⟩, by omega, fun F eF => ⟨fun q σ' M' a b => fs_m_seOr6_31 hG ⟨u0, fun _ => ⟨fw_01, ?_⟩⟩, fun g3 o3 p3 τ3 e3 c3 hg3 ho3 h203 M3 hm3 s3 L3 w3 R3 => fs_m_seOr6_31 hG ⟨fun _ => ?_, u1⟩⟩⟩
        · rw [hr.trans eF.symm] at h0
          exact h0 q σ' (ev_tr M2 M') a b
        · have b59 := s3.2.2
          have Q3 : gq τ τ3 := gq_tr (gq_k N2 (by decide)) R3.1
          exact ⟨_, _, _, _, rfl, ⟨s3.2.2.1, by have := s3.2.2.2; omega⟩, fun v τ4 M4 e59 ev hd => fs_m_seOr6_47 hG (ih g3 o3 p3 τ4 v (LO ++ (L3 ++ [(2, 0)])) (by omega) hg3 (by omega) h203 c3 (ev_tr (ev_tr M2 M3) (ev_up M4 (by decide))) (mt_M hm3 M4 (by decide) (by decide)) (sm_s s3 M4 e59) (gq_tr (gq_tr Q Q3) (ne_g e59 hd)) (by
            rw [ev]
            exact rp_or (h := o3 - o) ⟨b59.1, by omega⟩ (rp_g Q3 (Nat.le_refl _) R) R3.2 e59 hd (by omega) (by omega)) (by
            have w4 := w3 true
            rw [sl_lp_t c3] at w4
            rw [hw, w4, List.append_assoc, List.append_assoc]
            rfl) ((hr.trans eF.symm).trans e3))⟩
      · rw [fw_bo_f c]
        replace c : tw e p1 ≠ 7 := c
        rw [if_neg (fun u => u.elim c8 c)] at hr
        rw [if_neg c] at hw
        rw [hr, hw] at h1
        exact fs_m_seOr6_20 hG ⟨fun _ => ⟨fw_11, h1 rfl _ (fw_okM_ups M (by decide)) (mt_ups hm' (Or.inr ⟨rfl, by decide⟩)) (sm_k (M := [(93, 62)]) s' okM_one (by decide)) (by
          rw [show fl false = [] from rfl, List.append_nil]
          exact sr_top Q (by have := s'.2.2; omega) R)⟩, u0⟩
  refine fs_m_seOr6_0 hG ⟨A, e, p, o, z, 20, rfl, hp, by omega, fun F eF => ⟨fun q σ' M a b => fs_m_seOr6_4 hG ⟨u0, fun _ => ⟨fw_01, ?_⟩⟩, fun g' o' p' σ1 eq c8 hg ho1 ho2 M1 hm1 s1 LA wA RA => fs_m_seOr6_4 hG ⟨fun _ => ?_, u1⟩⟩⟩
  · have ec : sn_cd (sn_one A e 6) e o p = F := eF.symm
    rw [ec] at h0
    exact h0 q σ' M a b
  · have ec : sn_cd (sn_one A e 6) e o p = F := eF.symm
    exact loop 21 g' o' p' σ1 _ LA (by omega) hg ho1 ho2 c8 M1 hm1 s1 RA.1 RA.2 (wA false) (ec.trans eq))
theorem fm_m_seBr6 (hinj : nn_inj ad) : fw_H l cy ad wr cr D 345 32 (sp_m_seBr 6) := fw_mk hinj (⟨"NameNotesModel", "readBracket", "()Z"⟩, prog_14_method_144_code, 1, (Option.some Jvm.ClassFile.FieldType.boolean), 0, true, 1) rfl rfl nn_KI20_ok nn_KJ20_ok nn_PF20_ok nn_PS20_ok (by decide +kernel) rfl rfl (List.forall_mem_cons.mpr ⟨fw_row nn_PM20_ok (x := 168) (k := 0) (mn := 221) (np := 1) (ob := true) (ci := 11) (⟨"NameNotesModel", "bad", "(I)Z"⟩, prog_14_method_23_code, 2, (Option.some Jvm.ClassFile.FieldType.boolean), 1, true, 1) rfl (by decide +kernel) rfl rfl (by decide) (fun _ => ⟨_, _, rfl⟩) (fm_m_bad hinj), (List.forall_mem_cons.mpr ⟨fw_row nn_PM20_ok (x := 182) (k := 0) (mn := 212) (np := 0) (ob := true) (ci := 11) (⟨"NameNotesModel", "go", "()V"⟩, prog_14_method_17_code, 5, (Option.none : Option Jvm.ClassFile.FieldType), 0, true, 4) rfl (by decide +kernel) rfl rfl (by decide) (fun _ => ⟨_, _, rfl⟩) (fm_m_go hinj), (List.forall_mem_cons.mpr ⟨fw_row nn_PM20_ok (x := 185) (k := 0) (mn := 236) (np := 1) (ob := true) (ci := 11) (⟨"NameNotesModel", "isSign", "(I)Z"⟩, prog_14_method_21_code, 2, (Option.some Jvm.ClassFile.FieldType.boolean), 1, true, 1) rfl (by decide +kernel) rfl rfl (by decide) (fun _ => ⟨_, _, rfl⟩) (fm_m_isSign hinj), (List.forall_mem_cons.mpr ⟨fw_row nn_PM20_ok (x := 522) (k := 0) (mn := 342) (np := 0) (ob := true) (ci := 11) (⟨"NameNotesModel", "readOr", "()Z"⟩, prog_14_method_140_code, 2, (Option.some Jvm.ClassFile.FieldType.boolean), 0, true, 1) rfl (by decide +kernel) rfl rfl (by decide) (fun _ => ⟨_, _, rfl⟩) (fm_m_seOr6 hinj), (fun _ h => absurd h List.not_mem_nil)⟩)⟩)⟩)⟩) (fun as σ K h => by
  obtain ⟨A, e, p, o, z, rfl, hp, h0, h1⟩ := h
  have u0 : ∀ {X : Prop}, fw_c 0 ≠ 0 → X := fun z => absurd fw_c0 z
  have u1 : ∀ {X : Prop}, fw_c 1 = 0 → X := fun z => absurd (fw_c1.symm.trans z) (by decide)
  refine ⟨rfl, fun G hG => fs_m_seBr6_0 hG ⟨A, e, p, o, z, rfl, hp, ?_⟩⟩
  generalize sn_cd (sn_one A e 6) e o p = r at h0 h1 ⊢
  refine ⟨fun q σ' M a b => fs_m_seBr6_4 hG ⟨u0, fun _ => ⟨fw_01, ?_⟩⟩, fun q σ1 M1 hm1 s1 R1 => fs_m_seBr6_4 hG ⟨fun _ => ⟨41, e, r.2.2.2, rfl, Or.inr (Or.inr (Or.inr rfl)), hm1.1, ?_⟩, u1⟩⟩
  · rw [show sn_br e r = r from if_pos q] at h0
    exact h0 q σ' M a b
  · show G 15 _ [(0, 0, fw_bo ((tk e r.2.2.2).1 = 41))] σ1
    by_cases c : (tk e r.2.2.2).1 = 41
    · rw [fw_bo_t c]
      have eb : sn_br e r = (0, 0, r.2.2.1, tn e r.2.2.2) := (if_neg (fun u => u q)).trans (if_neg (fun u => u c))
      rw [eb] at h1
      exact fs_m_seBr6_15 hG ⟨fun _ => mt_go hm1 (fun σ2 N2 hm2 => fs_m_seBr6_28 hG ⟨fw_11, h1 rfl σ2 (ev_tr M1 (ev_up N2 (by decide))) hm2 (sm_k s1 N2 (by decide)) (sr_k R1 N2 (by decide))⟩), u1⟩
    · rw [fw_bo_f c]
      have eb : sn_br e r = (1, ev_st e r.2.2.2, r.2.2.1, r.2.2.2) := (if_neg (fun u => u q)).trans (if_pos c)
      rw [eb] at h0
      refine fs_m_seBr6_15 hG ⟨u0, fun _ => mp_bad hm1.1 (by decide) (fun σ' hM h10 h11 => fs_m_seBr6_23 hG ⟨fw_01, h0 (show (1 : Int) ≠ 0 by decide) σ' (ev_tr M1 (ev_up hM (by decide))) ?_ h11⟩)⟩
      rw [h10]
      split <;> rfl)
end
abbrev fk_m_seOne7 : List fw_CR := [(168, 1, true, 11, 0, sp_m_bad), (182, 0, true, 11, 1, sp_m_go), (185, 1, true, 11, 0, sp_m_isSign), (225, 1, true, 11, 2, sp_m_isWord), (261, 0, true, 11, 0, sp_m_tunes), (510, 0, true, 11, 32, sp_m_seBr 6), (513, 0, true, 11, 30, sp_m_seNot 6), (516, 3, true, 11, 3, sp_m_seOf), (519, 1, true, 11, 3, sp_m_seCmp)]
abbrev st_m_seOne7 : fw_K → fw_KR → fw_K := fw_st vwCl nn_sh nn_kd fw_kv fw_wc (nn_KI20.map (fun x => x.1)) (nn_KJ20.map (fun x => x.1)) (nn_PF20.map (fun x => x.1)) (nn_PS20.map (fun x => x.1)) fk_m_seOne7 33 nn_dt344 4 1
theorem fs_m_seOne7_0 {G : fw_K} {R : fw_KR} (hG : fw_cls st_m_seOne7 R G) {σ : ab_SG} (h : sp_m_isSign [(2, 93, 0), (0, 0, 40)] σ (fun rv σ2 => G 6 [some (2, 93, 0), none, none, none] (rv.toList ++ []) σ2)) : G 0 [some (2, 93, 0), none, none, none] [] σ := fw_on hG [6, 10, 21, 30, 45, 46, 64, 69, 94, 104, 118, 141, 164, 181, 184, 193, 194] 200 h
theorem fs_m_seOne7_6 {G : fw_K} {R : fw_KR} (hG : fw_cls st_m_seOne7 R G) {b0 : Int} {o1 o3 : Option ab_AV} {σ : ab_SG} (h : G 10 [some (2, 93, 0), some (0, 0, b0), some (0, 0, 9), o3] [] σ) : G 6 [some (2, 93, 0), o1, none, o3] [(0, 0, b0)] σ := fw_on hG [6, 10, 21, 30, 45, 46, 64, 69, 94, 104, 118, 141, 164, 181, 184, 193, 194] 200 h
theorem fs_m_seOne7_10 {G : fw_K} {R : fw_KR} (hG : fw_cls st_m_seOne7 R G) {a1 a2 : Int} {o3 : Option ab_AV} {σ : ab_SG} (h : (fw_c 16 < fw_c a2 → G 30 [some (2, 93, 0), some (0, 0, a1), some (0, 0, a2), o3] [] σ) ∧ (fw_c a2 ≤ fw_c 16 → sp_m_isWord [(2, 93, 0), (0, 0, a2)] σ (fun rv σ2 => G 21 [some (2, 93, 0), some (0, 0, a1), some (0, 0, a2), o3] (rv.toList ++ []) σ2))) : G 10 [some (2, 93, 0), some (0, 0, a1), some (0, 0, a2), o3] [] σ := fw_on hG [6, 10, 21, 30, 45, 46, 64, 69, 94, 104, 118, 141, 164, 181, 184, 193, 194] 200 h
theorem fs_m_seOne7_30 {G : fw_K} {R : fw_KR} (hG : fw_cls st_m_seOne7 R G) {a1 a2 : Int} {o3 : Option ab_AV} {σ : ab_SG} (h : (fw_c a1 ≠ 0 → G 46 [some (2, 93, 0), some (0, 0, a1), some (0, 0, a2), o3] [] σ) ∧ (fw_c a1 = 0 → (fw_c a2 ≤ fw_c 16 → G 46 [some (2, 93, 0), some (0, 0, a1), some (0, 0, a2), o3] [] σ) ∧ (fw_c 16 < fw_c a2 → sp_m_bad [(2, 93, 0), (0, 0, 1)] σ (fun rv σ2 => G 45 [some (2, 93, 0), some (0, 0, a1), some (0, 0, a2), o3] (rv.toList ++ []) σ2)))) : G 30 [some (2, 93, 0), some (0, 0, a1), some (0, 0, a2), o3] [] σ := fw_on hG [6, 10, 21, 30, 45, 46, 64, 69, 94, 104, 118, 141, 164, 181, 184, 193, 194] 200 h
theorem fs_m_seOne7_21 {G : fw_K} {R : fw_KR} (hG : fw_cls st_m_seOne7 R G) {a1 a2 b0 : Int} {o3 : Option ab_AV} {σ : ab_SG} (h : (fw_c b0 ≠ 0 → G 30 [some (2, 93, 0), some (0, 0, a1), some (0, 0, a2), o3] [] σ) ∧ (fw_c b0 = 0 → G 10 [some (2, 93, 0), some (0, 0, a1), some (0, 0, a2 + 1), o3] [] σ)) : G 21 [some (2, 93, 0), some (0, 0, a1), some (0, 0, a2), o3] [(0, 0, b0)] σ := fw_on hG [6, 10, 21, 30, 45, 46, 64, 69, 94, 104, 118, 141, 164, 181, 184, 193, 194] 200 h
theorem fs_m_seOne7_46 {G : fw_K} {R : fw_KR} (hG : fw_cls st_m_seOne7 R G) {a1 a2 : Int} {o3 : Option ab_AV} {σ : ab_SG} (h : (fw_c (σ 93 60) = fw_c 20 → G 64 [some (2, 93, 0), some (0, 0, a1), some (0, 0, a2), o3] [] σ) ∧ (fw_c (σ 93 60) ≠ fw_c 20 → (fw_c (σ 93 61) ≠ fw_c 8 → sp_m_go [(2, 93, 0)] (ab_ups (ab_ups σ 93 60 (fw_c ((σ 93 60) + 1))) 93 61 (fw_c ((σ 93 61) + 1))) (fun rv σ2 => G 94 [some (2, 93, 0), some (0, 0, a1), some (0, 0, a2), o3] (rv.toList ++ []) σ2)) ∧ (fw_c (σ 93 61) = fw_c 8 → G 64 [some (2, 93, 0), some (0, 0, a1), some (0, 0, a2), o3] [] σ))) : G 46 [some (2, 93, 0), some (0, 0, a1), some (0, 0, a2), o3] [] σ := fw_on hG [6, 10, 21, 30, 45, 46, 64, 69, 94, 104, 118, 141, 164, 181, 184, 193, 194] 200 h
theorem fs_m_seOne7_45 {G : fw_K} {R : fw_KR} (hG : fw_cls st_m_seOne7 R G) {a2 b0 : Int} {o1 o3 : Option ab_AV} {σ : ab_SG} (h : (0 ≤ fw_c b0 ∧ fw_c b0 ≤ 1) ∧ R (some (0, 0, b0)) σ) : G 45 [some (2, 93, 0), o1, some (0, 0, a2), o3] [(0, 0, b0)] σ := fw_on hG [6, 10, 21, 30, 45, 46, 64, 69, 94, 104, 118, 141, 164, 181, 184, 193, 194] 200 h
theorem fs_m_seOne7_64 {G : fw_K} {R : fw_KR} (hG : fw_cls st_m_seOne7 R G) {a2 : Int} {o1 o3 : Option ab_AV} {σ : ab_SG} (h : sp_m_bad [(2, 93, 0), (0, 0, 4)] σ (fun rv σ2 => G 69 [some (2, 93, 0), o1, some (0, 0, a2), o3] (rv.toList ++ []) σ2)) : G 64 [some (2, 93, 0), o1, some (0, 0, a2), o3] [] σ := fw_on hG [6, 10, 21, 30, 45, 46, 64, 69, 94, 104, 118, 141, 164, 181, 184, 193, 194] 200 h
theorem fs_m_seOne7_94 {G : fw_K} {R : fw_KR} (hG : fw_cls st_m_seOne7 R G) {a1 a2 : Int} {o3 : Option ab_AV} {σ : ab_SG} (h : (fw_c a1 = 0 → (fw_c a2 ≠ fw_c 9 → (fw_c a2 ≠ fw_c 10 → (fw_c a2 ≠ fw_c 11 → (fw_c a2 ≠ fw_c 12 → sp_m_seCmp [(2, 93, 0), (0, 0, a2)] σ (fun rv σ2 => G 193 [some (2, 93, 0), some (0, 0, a1), some (0, 0, a2), some (0, 0, 1)] (rv.toList ++ []) σ2)) ∧ (fw_c a2 = fw_c 12 → sp_m_tunes [(2, 93, 0)] σ (fun rv σ2 => G 181 [some (2, 93, 0), some (0, 0, a1), some (0, 0, a2), some (0, 0, 1)] (rv.toList ++ [(0, 0, 0), (0, 0, a2), (2, 93, 0)]) σ2))) ∧ (fw_c a2 = fw_c 11 → (0 ≤ fw_c 2 ∧ fw_c 2 < ((474 : Nat) : Int)) ∧ (sp_m_seOf [(2, 93, 0), (0, 0, a2), (0, 0, 15), (0, 0, σ 95 (fw_c 2).toNat)] σ (fun rv σ2 => G 164 [some (2, 93, 0), some (0, 0, a1), some (0, 0, a2), some (0, 0, 1)] (rv.toList ++ []) σ2)))) ∧ (fw_c a2 = fw_c 10 → (0 ≤ fw_c 1 ∧ fw_c 1 < ((474 : Nat) : Int)) ∧ (sp_m_seOf [(2, 93, 0), (0, 0, a2), (0, 0, 9), (0, 0, σ 95 (fw_c 1).toNat)] σ (fun rv σ2 => G 141 [some (2, 93, 0), some (0, 0, a1), some (0, 0, a2), some (0, 0, 1)] (rv.toList ++ []) σ2)))) ∧ (fw_c a2 = fw_c 9 → sp_m_seNot 6 [(2, 93, 0)] σ (fun rv σ2 => G 118 [some (2, 93, 0), some (0, 0, a1), some (0, 0, a2), some (0, 0, 1)] (rv.toList ++ []) σ2))) ∧ (fw_c a1 ≠ 0 → sp_m_seBr 6 [(2, 93, 0)] σ (fun rv σ2 => G 104 [some (2, 93, 0), some (0, 0, a1), some (0, 0, a2), some (0, 0, 1)] (rv.toList ++ []) σ2))) : G 94 [some (2, 93, 0), some (0, 0, a1), some (0, 0, a2), o3] [] σ := fw_on hG [6, 10, 21, 30, 45, 46, 64, 69, 94, 104, 118, 141, 164, 181, 184, 193, 194] 200 h
theorem fs_m_seOne7_69 {G : fw_K} {R : fw_KR} (hG : fw_cls st_m_seOne7 R G) {a2 b0 : Int} {o1 o3 : Option ab_AV} {σ : ab_SG} (h : (0 ≤ fw_c b0 ∧ fw_c b0 ≤ 1) ∧ R (some (0, 0, b0)) σ) : G 69 [some (2, 93, 0), o1, some (0, 0, a2), o3] [(0, 0, b0)] σ := fw_on hG [6, 10, 21, 30, 45, 46, 64, 69, 94, 104, 118, 141, 164, 181, 184, 193, 194] 200 h
theorem fs_m_seOne7_193 {G : fw_K} {R : fw_KR} (hG : fw_cls st_m_seOne7 R G) {a2 b0 : Int} {o1 o3 : Option ab_AV} {σ : ab_SG} (h : G 194 [some (2, 93, 0), o1, some (0, 0, a2), some (0, 0, b0)] [] σ) : G 193 [some (2, 93, 0), o1, some (0, 0, a2), o3] [(0, 0, b0)] σ := fw_on hG [6, 10, 21, 30, 45, 46, 64, 69, 94, 104, 118, 141, 164, 181, 184, 193, 194] 200 h
theorem fs_m_seOne7_181 {G : fw_K} {R : fw_KR} (hG : fw_cls st_m_seOne7 R G) {a2 b0 b1 b2 : Int} {o1 o3 : Option ab_AV} {σ : ab_SG} (h : sp_m_seOf [(2, 93, 0), (0, 0, b2), (0, 0, b1), (0, 0, b0)] σ (fun rv σ2 => G 184 [some (2, 93, 0), o1, some (0, 0, a2), o3] (rv.toList ++ []) σ2)) : G 181 [some (2, 93, 0), o1, some (0, 0, a2), o3] [(0, 0, b0), (0, 0, b1), (0, 0, b2), (2, 93, 0)] σ := fw_on hG [6, 10, 21, 30, 45, 46, 64, 69, 94, 104, 118, 141, 164, 181, 184, 193, 194] 200 h
theorem fs_m_seOne7_164 {G : fw_K} {R : fw_KR} (hG : fw_cls st_m_seOne7 R G) {a2 b0 : Int} {o1 o3 : Option ab_AV} {σ : ab_SG} (h : G 194 [some (2, 93, 0), o1, some (0, 0, a2), some (0, 0, b0)] [] σ) : G 164 [some (2, 93, 0), o1, some (0, 0, a2), o3] [(0, 0, b0)] σ := fw_on hG [6, 10, 21, 30, 45, 46, 64, 69, 94, 104, 118, 141, 164, 181, 184, 193, 194] 200 h
theorem fs_m_seOne7_141 {G : fw_K} {R : fw_KR} (hG : fw_cls st_m_seOne7 R G) {a2 b0 : Int} {o1 o3 : Option ab_AV} {σ : ab_SG} (h : G 194 [some (2, 93, 0), o1, some (0, 0, a2), some (0, 0, b0)] [] σ) : G 141 [some (2, 93, 0), o1, some (0, 0, a2), o3] [(0, 0, b0)] σ := fw_on hG [6, 10, 21, 30, 45, 46, 64, 69, 94, 104, 118, 141, 164, 181, 184, 193, 194] 200 h
theorem fs_m_seOne7_118 {G : fw_K} {R : fw_KR} (hG : fw_cls st_m_seOne7 R G) {a2 b0 : Int} {o1 o3 : Option ab_AV} {σ : ab_SG} (h : G 194 [some (2, 93, 0), o1, some (0, 0, a2), some (0, 0, b0)] [] σ) : G 118 [some (2, 93, 0), o1, some (0, 0, a2), o3] [(0, 0, b0)] σ := fw_on hG [6, 10, 21, 30, 45, 46, 64, 69, 94, 104, 118, 141, 164, 181, 184, 193, 194] 200 h
theorem fs_m_seOne7_104 {G : fw_K} {R : fw_KR} (hG : fw_cls st_m_seOne7 R G) {a2 b0 : Int} {o1 o3 : Option ab_AV} {σ : ab_SG} (h : G 194 [some (2, 93, 0), o1, some (0, 0, a2), some (0, 0, b0)] [] σ) : G 104 [some (2, 93, 0), o1, some (0, 0, a2), o3] [(0, 0, b0)] σ := fw_on hG [6, 10, 21, 30, 45, 46, 64, 69, 94, 104, 118, 141, 164, 181, 184, 193, 194] 200 h
theorem fs_m_seOne7_194 {G : fw_K} {R : fw_KR} (hG : fw_cls st_m_seOne7 R G) {a2 a3 : Int} {o1 : Option ab_AV} {σ : ab_SG} (h : (0 ≤ fw_c a3 ∧ fw_c a3 ≤ 1) ∧ R (some (0, 0, a3)) (ab_ups σ 93 61 (fw_c ((σ 93 61) - 1)))) : G 194 [some (2, 93, 0), o1, some (0, 0, a2), some (0, 0, a3)] [] σ := fw_on hG [6, 10, 21, 30, 45, 46, 64, 69, 94, 104, 118, 141, 164, 181, 184, 193, 194] 200 h
theorem fs_m_seOne7_184 {G : fw_K} {R : fw_KR} (hG : fw_cls st_m_seOne7 R G) {a2 b0 : Int} {o1 o3 : Option ab_AV} {σ : ab_SG} (h : G 194 [some (2, 93, 0), o1, some (0, 0, a2), some (0, 0, b0)] [] σ) : G 184 [some (2, 93, 0), o1, some (0, 0, a2), o3] [(0, 0, b0)] σ := fw_on hG [6, 10, 21, 30, 45, 46, 64, 69, 94, 104, 118, 141, 164, 181, 184, 193, 194] 200 h
abbrev fk_m_seAnd7 : List fw_CR := [(182, 0, true, 11, 1, sp_m_go), (225, 1, true, 11, 2, sp_m_isWord), (498, 4, true, 11, 0, sp_m_saysOne), (501, 0, true, 11, 33, sp_m_seOne 7)]
abbrev st_m_seAnd7 : fw_K → fw_KR → fw_K := fw_st vwCl nn_sh nn_kd fw_kv fw_wc (nn_KI20.map (fun x => x.1)) (nn_KJ20.map (fun x => x.1)) (nn_PF20.map (fun x => x.1)) (nn_PS20.map (fun x => x.1)) fk_m_seAnd7 34 nn_dt343 2 1
theorem fs_m_seAnd7_0 {G : fw_K} {R : fw_KR} (hG : fw_cls st_m_seAnd7 R G) {σ : ab_SG} (h : sp_m_seOne 7 [(2, 93, 0)] σ (fun rv σ2 => G 4 [some (2, 93, 0), none] (rv.toList ++ []) σ2)) : G 0 [some (2, 93, 0), none] [] σ := fw_on hG [4, 14, 20, 27, 31, 47] 200 h
theorem fs_m_seAnd7_4 {G : fw_K} {R : fw_KR} (hG : fw_cls st_m_seAnd7 R G) {b0 : Int} {o1 : Option ab_AV} {σ : ab_SG} (h : (fw_c b0 ≠ 0 → G 14 [some (2, 93, 0), some (0, 0, σ 93 62)] [] σ) ∧ (fw_c b0 = 0 → (0 ≤ fw_c 0 ∧ fw_c 0 ≤ 1) ∧ R (some (0, 0, 0)) σ)) : G 4 [some (2, 93, 0), o1] [(0, 0, b0)] σ := fw_on hG [4, 14, 20, 27, 31, 47] 200 h
theorem fs_m_seAnd7_14 {G : fw_K} {R : fw_KR} (hG : fw_cls st_m_seAnd7 R G) {a1 : Int} {σ : ab_SG} (h : sp_m_isWord [(2, 93, 0), (0, 0, 8)] σ (fun rv σ2 => G 20 [some (2, 93, 0), some (0, 0, a1)] (rv.toList ++ []) σ2)) : G 14 [some (2, 93, 0), some (0, 0, a1)] [] σ := fw_on hG [4, 14, 20, 27, 31, 47] 200 h
theorem fs_m_seAnd7_20 {G : fw_K} {R : fw_KR} (hG : fw_cls st_m_seAnd7 R G) {a1 b0 : Int} {σ : ab_SG} (h : (fw_c b0 = 0 → (0 ≤ fw_c 1 ∧ fw_c 1 ≤ 1) ∧ R (some (0, 0, 1)) (ab_ups σ 93 62 (fw_c a1))) ∧ (fw_c b0 ≠ 0 → sp_m_go [(2, 93, 0)] σ (fun rv σ2 => G 27 [some (2, 93, 0), some (0, 0, a1)] (rv.toList ++ []) σ2))) : G 20 [some (2, 93, 0), some (0, 0, a1)] [(0, 0, b0)] σ := fw_on hG [4, 14, 20, 27, 31, 47] 200 h
theorem fs_m_seAnd7_27 {G : fw_K} {R : fw_KR} (hG : fw_cls st_m_seAnd7 R G) {a1 : Int} {σ : ab_SG} (h : sp_m_seOne 7 [(2, 93, 0)] σ (fun rv σ2 => G 31 [some (2, 93, 0), some (0, 0, a1)] (rv.toList ++ []) σ2)) : G 27 [some (2, 93, 0), some (0, 0, a1)] [] σ := fw_on hG [4, 14, 20, 27, 31, 47] 200 h
theorem fs_m_seAnd7_31 {G : fw_K} {R : fw_KR} (hG : fw_cls st_m_seAnd7 R G) {a1 b0 : Int} {σ : ab_SG} (h : (fw_c b0 ≠ 0 → sp_m_saysOne [(2, 93, 0), (0, 0, 2), (0, 0, a1), (0, 0, σ 93 62), (0, 0, 0)] σ (fun rv σ2 => G 47 [some (2, 93, 0), some (0, 0, a1)] (rv.toList ++ []) σ2)) ∧ (fw_c b0 = 0 → (0 ≤ fw_c 0 ∧ fw_c 0 ≤ 1) ∧ R (some (0, 0, 0)) σ)) : G 31 [some (2, 93, 0), some (0, 0, a1)] [(0, 0, b0)] σ := fw_on hG [4, 14, 20, 27, 31, 47] 200 h
theorem fs_m_seAnd7_47 {G : fw_K} {R : fw_KR} (hG : fw_cls st_m_seAnd7 R G) {b0 : Int} {o1 : Option ab_AV} {σ : ab_SG} (h : G 14 [some (2, 93, 0), some (0, 0, b0)] [] σ) : G 47 [some (2, 93, 0), o1] [(0, 0, b0)] σ := fw_on hG [4, 14, 20, 27, 31, 47] 200 h
abbrev fk_m_seOr7 : List fw_CR := [(182, 0, true, 11, 1, sp_m_go), (225, 1, true, 11, 2, sp_m_isWord), (492, 0, true, 11, 34, sp_m_seAnd 7), (498, 4, true, 11, 0, sp_m_saysOne)]
abbrev st_m_seOr7 : fw_K → fw_KR → fw_K := fw_st vwCl nn_sh nn_kd fw_kv fw_wc (nn_KI20.map (fun x => x.1)) (nn_KJ20.map (fun x => x.1)) (nn_PF20.map (fun x => x.1)) (nn_PS20.map (fun x => x.1)) fk_m_seOr7 35 nn_dt342 2 1
theorem fs_m_seOr7_0 {G : fw_K} {R : fw_KR} (hG : fw_cls st_m_seOr7 R G) {σ : ab_SG} (h : sp_m_seAnd 7 [(2, 93, 0)] σ (fun rv σ2 => G 4 [some (2, 93, 0), none] (rv.toList ++ []) σ2)) : G 0 [some (2, 93, 0), none] [] σ := fw_on hG [4, 14, 20, 27, 31, 47] 200 h
theorem fs_m_seOr7_4 {G : fw_K} {R : fw_KR} (hG : fw_cls st_m_seOr7 R G) {b0 : Int} {o1 : Option ab_AV} {σ : ab_SG} (h : (fw_c b0 ≠ 0 → G 14 [some (2, 93, 0), some (0, 0, σ 93 62)] [] σ) ∧ (fw_c b0 = 0 → (0 ≤ fw_c 0 ∧ fw_c 0 ≤ 1) ∧ R (some (0, 0, 0)) σ)) : G 4 [some (2, 93, 0), o1] [(0, 0, b0)] σ := fw_on hG [4, 14, 20, 27, 31, 47] 200 h
theorem fs_m_seOr7_14 {G : fw_K} {R : fw_KR} (hG : fw_cls st_m_seOr7 R G) {a1 : Int} {σ : ab_SG} (h : sp_m_isWord [(2, 93, 0), (0, 0, 7)] σ (fun rv σ2 => G 20 [some (2, 93, 0), some (0, 0, a1)] (rv.toList ++ []) σ2)) : G 14 [some (2, 93, 0), some (0, 0, a1)] [] σ := fw_on hG [4, 14, 20, 27, 31, 47] 200 h
theorem fs_m_seOr7_20 {G : fw_K} {R : fw_KR} (hG : fw_cls st_m_seOr7 R G) {a1 b0 : Int} {σ : ab_SG} (h : (fw_c b0 = 0 → (0 ≤ fw_c 1 ∧ fw_c 1 ≤ 1) ∧ R (some (0, 0, 1)) (ab_ups σ 93 62 (fw_c a1))) ∧ (fw_c b0 ≠ 0 → sp_m_go [(2, 93, 0)] σ (fun rv σ2 => G 27 [some (2, 93, 0), some (0, 0, a1)] (rv.toList ++ []) σ2))) : G 20 [some (2, 93, 0), some (0, 0, a1)] [(0, 0, b0)] σ := fw_on hG [4, 14, 20, 27, 31, 47] 200 h
theorem fs_m_seOr7_27 {G : fw_K} {R : fw_KR} (hG : fw_cls st_m_seOr7 R G) {a1 : Int} {σ : ab_SG} (h : sp_m_seAnd 7 [(2, 93, 0)] σ (fun rv σ2 => G 31 [some (2, 93, 0), some (0, 0, a1)] (rv.toList ++ []) σ2)) : G 27 [some (2, 93, 0), some (0, 0, a1)] [] σ := fw_on hG [4, 14, 20, 27, 31, 47] 200 h
theorem fs_m_seOr7_31 {G : fw_K} {R : fw_KR} (hG : fw_cls st_m_seOr7 R G) {a1 b0 : Int} {σ : ab_SG} (h : (fw_c b0 ≠ 0 → sp_m_saysOne [(2, 93, 0), (0, 0, 3), (0, 0, a1), (0, 0, σ 93 62), (0, 0, 0)] σ (fun rv σ2 => G 47 [some (2, 93, 0), some (0, 0, a1)] (rv.toList ++ []) σ2)) ∧ (fw_c b0 = 0 → (0 ≤ fw_c 0 ∧ fw_c 0 ≤ 1) ∧ R (some (0, 0, 0)) σ)) : G 31 [some (2, 93, 0), some (0, 0, a1)] [(0, 0, b0)] σ := fw_on hG [4, 14, 20, 27, 31, 47] 200 h
theorem fs_m_seOr7_47 {G : fw_K} {R : fw_KR} (hG : fw_cls st_m_seOr7 R G) {b0 : Int} {o1 : Option ab_AV} {σ : ab_SG} (h : G 14 [some (2, 93, 0), some (0, 0, b0)] [] σ) : G 47 [some (2, 93, 0), o1] [(0, 0, b0)] σ := fw_on hG [4, 14, 20, 27, 31, 47] 200 h
abbrev fk_m_seBr7 : List fw_CR := [(168, 1, true, 11, 0, sp_m_bad), (182, 0, true, 11, 1, sp_m_go), (185, 1, true, 11, 0, sp_m_isSign), (522, 0, true, 11, 35, sp_m_seOr 7)]
abbrev st_m_seBr7 : fw_K → fw_KR → fw_K := fw_st vwCl nn_sh nn_kd fw_kv fw_wc (nn_KI20.map (fun x => x.1)) (nn_KJ20.map (fun x => x.1)) (nn_PF20.map (fun x => x.1)) (nn_PS20.map (fun x => x.1)) fk_m_seBr7 36 nn_dt345 1 1
theorem fs_m_seBr7_0 {G : fw_K} {R : fw_KR} (hG : fw_cls st_m_seBr7 R G) {σ : ab_SG} (h : sp_m_seOr 7 [(2, 93, 0)] σ (fun rv σ2 => G 4 [some (2, 93, 0)] (rv.toList ++ []) σ2)) : G 0 [some (2, 93, 0)] [] σ := fw_on hG [4, 15, 23, 28] 200 h
theorem fs_m_seBr7_4 {G : fw_K} {R : fw_KR} (hG : fw_cls st_m_seBr7 R G) {b0 : Int} {σ : ab_SG} (h : (fw_c b0 ≠ 0 → sp_m_isSign [(2, 93, 0), (0, 0, 41)] σ (fun rv σ2 => G 15 [some (2, 93, 0)] (rv.toList ++ []) σ2)) ∧ (fw_c b0 = 0 → (0 ≤ fw_c 0 ∧ fw_c 0 ≤ 1) ∧ R (some (0, 0, 0)) σ)) : G 4 [some (2, 93, 0)] [(0, 0, b0)] σ := fw_on hG [4, 15, 23, 28] 200 h
theorem fs_m_seBr7_15 {G : fw_K} {R : fw_KR} (hG : fw_cls st_m_seBr7 R G) {b0 : Int} {σ : ab_SG} (h : (fw_c b0 ≠ 0 → sp_m_go [(2, 93, 0)] σ (fun rv σ2 => G 28 [some (2, 93, 0)] (rv.toList ++ []) σ2)) ∧ (fw_c b0 = 0 → sp_m_bad [(2, 93, 0), (0, 0, 1)] σ (fun rv σ2 => G 23 [some (2, 93, 0)] (rv.toList ++ []) σ2))) : G 15 [some (2, 93, 0)] [(0, 0, b0)] σ := fw_on hG [4, 15, 23, 28] 200 h
theorem fs_m_seBr7_28 {G : fw_K} {R : fw_KR} (hG : fw_cls st_m_seBr7 R G) {σ : ab_SG} (h : (0 ≤ fw_c 1 ∧ fw_c 1 ≤ 1) ∧ R (some (0, 0, 1)) σ) : G 28 [some (2, 93, 0)] [] σ := fw_on hG [4, 15, 23, 28] 200 h
theorem fs_m_seBr7_23 {G : fw_K} {R : fw_KR} (hG : fw_cls st_m_seBr7 R G) {b0 : Int} {σ : ab_SG} (h : (0 ≤ fw_c b0 ∧ fw_c b0 ≤ 1) ∧ R (some (0, 0, b0)) σ) : G 23 [some (2, 93, 0)] [(0, 0, b0)] σ := fw_on hG [4, 15, 23, 28] 200 h
abbrev fk_m_seNot7 : List fw_CR := [(498, 4, true, 11, 0, sp_m_saysOne), (501, 0, true, 11, 33, sp_m_seOne 7)]
abbrev st_m_seNot7 : fw_K → fw_KR → fw_K := fw_st vwCl nn_sh nn_kd fw_kv fw_wc (nn_KI20.map (fun x => x.1)) (nn_KJ20.map (fun x => x.1)) (nn_PF20.map (fun x => x.1)) (nn_PS20.map (fun x => x.1)) fk_m_seNot7 34 nn_dt346 1 1
theorem fs_m_seNot7_0 {G : fw_K} {R : fw_KR} (hG : fw_cls st_m_seNot7 R G) {σ : ab_SG} (h : sp_m_seOne 7 [(2, 93, 0)] σ (fun rv σ2 => G 4 [some (2, 93, 0)] (rv.toList ++ []) σ2)) : G 0 [some (2, 93, 0)] [] σ := fw_on hG [4, 21] 200 h
theorem fs_m_seNot7_4 {G : fw_K} {R : fw_KR} (hG : fw_cls st_m_seNot7 R G) {b0 : Int} {σ : ab_SG} (h : (fw_c b0 ≠ 0 → sp_m_saysOne [(2, 93, 0), (0, 0, 1), (0, 0, σ 93 62), (0, 0, 0), (0, 0, 0)] σ (fun rv σ2 => G 21 [some (2, 93, 0)] (rv.toList ++ [(2, 93, 0)]) σ2)) ∧ (fw_c b0 = 0 → (0 ≤ fw_c 0 ∧ fw_c 0 ≤ 1) ∧ R (some (0, 0, 0)) σ)) : G 4 [some (2, 93, 0)] [(0, 0, b0)] σ := fw_on hG [4, 21] 200 h
theorem fs_m_seNot7_21 {G : fw_K} {R : fw_KR} (hG : fw_cls st_m_seNot7 R G) {b0 : Int} {σ : ab_SG} (h : (0 ≤ fw_c 1 ∧ fw_c 1 ≤ 1) ∧ R (some (0, 0, 1)) (ab_ups σ 93 62 (fw_c b0))) : G 21 [some (2, 93, 0)] [(0, 0, b0), (2, 93, 0)] σ := fw_on hG [4, 21] 200 h
section
variable {l : Launch} {cy : Nat → ClassId} {ad wr cr : Nat → Nat} {D : va_G}
theorem fm_m_seOne7 (hinj : nn_inj ad) : fw_H l cy ad wr cr D 344 33 (sp_m_seOne 7) := fw_mk hinj (⟨"NameNotesModel", "readOne", "()Z"⟩, prog_14_method_142_code, 4, (Option.some Jvm.ClassFile.FieldType.boolean), 0, true, 1) rfl rfl nn_KI20_ok nn_KJ20_ok nn_PF20_ok nn_PS20_ok (by decide +kernel) rfl rfl (List.forall_mem_cons.mpr ⟨fw_row nn_PM20_ok (x := 168) (k := 0) (mn := 221) (np := 1) (ob := true) (ci := 11) (⟨"NameNotesModel", "bad", "(I)Z"⟩, prog_14_method_23_code, 2, (Option.some Jvm.ClassFile.FieldType.boolean), 1, true, 1) rfl (by decide +kernel) rfl rfl (by decide) (fun _ => ⟨_, _, rfl⟩) (fm_m_bad hinj), (List.forall_mem_cons.mpr ⟨fw_row nn_PM20_ok (x := 182) (k := 0) (mn := 212) (np := 0) (ob := true) (ci := 11) (⟨"NameNotesModel", "go", "()V"⟩, prog_14_method_17_code, 5, (Option.none : Option Jvm.ClassFile.FieldType), 0, true, 4) rfl (by decide +kernel) rfl rfl (by decide) (fun _ => ⟨_, _, rfl⟩) (fm_m_go hinj), (List.forall_mem_cons.mpr ⟨fw_row nn_PM20_ok (x := 185) (k := 0) (mn := 236) (np := 1) (ob := true) (ci := 11) (⟨"NameNotesModel", "isSign", "(I)Z"⟩, prog_14_method_21_code, 2, (Option.some Jvm.ClassFile.FieldType.boolean), 1, true, 1) rfl (by decide +kernel) rfl rfl (by decide) (fun _ => ⟨_, _, rfl⟩) (fm_m_isSign hinj), (List.forall_mem_cons.mpr ⟨fw_row nn_PM20_ok (x := 225) (k := 0) (mn := 217) (np := 1) (ob := true) (ci := 11) (⟨"NameNotesModel", "isWord", "(I)Z"⟩, prog_14_method_20_code, 2, (Option.some Jvm.ClassFile.FieldType.boolean), 1, true, 1) rfl (by decide +kernel) rfl rfl (by decide) (fun _ => ⟨_, _, rfl⟩) (fm_m_isWord hinj), (List.forall_mem_cons.mpr ⟨fw_row nn_PM20_ok (x := 261) (k := 0) (mn := 240) (np := 0) (ob := true) (ci := 11) (⟨"NameNotesModel", "tunes", "()I"⟩, prog_14_method_41_code, 1, (Option.some Jvm.ClassFile.FieldType.int), 0, true, 0) rfl (by decide +kernel) rfl rfl (by decide) (fun _ => ⟨_, _, rfl⟩) (fm_m_tunes hinj), (List.forall_mem_cons.mpr ⟨fw_row nn_PM20_ok (x := 510) (k := 0) (mn := 345) (np := 0) (ob := true) (ci := 11) (⟨"NameNotesModel", "readBracket", "()Z"⟩, prog_14_method_144_code, 1, (Option.some Jvm.ClassFile.FieldType.boolean), 0, true, 1) rfl (by decide +kernel) rfl rfl (by decide) (fun _ => ⟨_, _, rfl⟩) (fm_m_seBr6 hinj), (List.forall_mem_cons.mpr ⟨fw_row nn_PM20_ok (x := 513) (k := 0) (mn := 346) (np := 0) (ob := true) (ci := 11) (⟨"NameNotesModel", "readNot", "()Z"⟩, prog_14_method_143_code, 1, (Option.some Jvm.ClassFile.FieldType.boolean), 0, true, 1) rfl (by decide +kernel) rfl rfl (by decide) (fun _ => ⟨_, _, rfl⟩) (fm_m_seNot6 hinj), (List.forall_mem_cons.mpr ⟨fw_row nn_PM20_ok (x := 516) (k := 0) (mn := 348) (np := 3) (ob := true) (ci := 11) (⟨"NameNotesModel", "readOf", "(III)Z"⟩, prog_14_method_145_code, 5, (Option.some Jvm.ClassFile.FieldType.boolean), 3, true, 1) rfl (by decide +kernel) rfl rfl (by decide) (fun _ => ⟨_, _, rfl⟩) (fm_m_seOf hinj), (List.forall_mem_cons.mpr ⟨fw_row nn_PM20_ok (x := 519) (k := 0) (mn := 349) (np := 1) (ob := true) (ci := 11) (⟨"NameNotesModel", "readCompare", "(I)Z"⟩, prog_14_method_146_code, 3, (Option.some Jvm.ClassFile.FieldType.boolean), 1, true, 1) rfl (by decide +kernel) rfl rfl (by decide) (fun _ => ⟨_, _, rfl⟩) (fm_m_seCmp hinj), (fun _ h => absurd h List.not_mem_nil)⟩)⟩)⟩)⟩)⟩)⟩)⟩)⟩)⟩) (fun as σ K h => by
  obtain ⟨A, e, p, o, z, rfl, ⟨hN, hm, hs, ho⟩, h0, h1⟩ := h
  have c16 : fw_c 16 = 16 := fw_s (by decide) (by decide)
  have c20 : fw_c 20 = 20 := fw_s (by decide) (by decide)
  have c8 : fw_c 8 = 8 := fw_s (by decide) (by decide)
  have c60 : fw_c (σ 93 60) = (o : Int) := by rw [hs.1]; exact fw_s (by omega) (by omega)
  have c61 : fw_c (σ 93 61) = ((8 - 7 : Nat) : Int) := by rw [hs.2.1]; exact fw_s (by decide) (by decide)
  have u0 : ∀ {X : Prop}, fw_c 0 ≠ 0 → X := fun z => absurd fw_c0 z
  have u1 : ∀ {X : Prop}, fw_c 1 = 0 → X := fun z => absurd (fw_c1.symm.trans z) (by decide)
  have n40 : (tk e p).1 = 40 → ¬ (9 ≤ tw e p ∧ tw e p ≤ 16) := fun z y => by
    have := tw_k (e := e) (p := p) (by omega)
    omega
  refine ⟨rfl, fun G hG => ?_⟩
  -- too many, too deep
  have g64 : sn_st e p → sn_one A e 7 o p = (4, ev_st e p, o, p) → ∀ (o1 o3 : Option ab_AV) (w : Int), G 64 [some (2, 93, 0), o1, some (0, 0, w), o3] [] σ := fun y en o1 o3 w => by
    rw [en] at h0
    refine fs_m_seOne7_64 hG (mp_bad hm.1 (by decide) (fun σ' hM h10 h11 => fs_m_seOne7_69 hG ⟨fw_01, h0 (show (4 : Int) ≠ 0 by decide) σ' (ev_up hM (by decide)) ?_ h11⟩))
    have k : ¬ σ 93 7 = 1 := fun q => by
      have g := (mg_kind hm.1).2.2.1.mp q
      rcases y with y | y
      · omega
      · have := tw_k (e := e) (p := p) (by omega)
        omega
    rw [h10, if_neg k]
  have g46 : ∀ (b w : Int) (o3 : Option ab_AV), sn_st e p → ((b = 1 ∧ (tk e p).1 = 40) ∨ (b = 0 ∧ (tk e p).1 ≠ 40 ∧ w = tw e p)) → (0 ≤ w ∧ w ≤ 17) → G 46 [some (2, 93, 0), some (0, 0, b), some (0, 0, w), o3] [] σ := by
    intro b w o3 y hb hw
    refine fs_m_seOne7_46 hG ?_
    rw [c60, c61, c20, c8]
    refine ⟨fun q => g64 y ?_ _ o3 w, fun q => ⟨fun _ => ?_, fun q2 => absurd q2 (by decide)⟩⟩
    · rw [show sn_one A e 7 o p = _ from sn_one_s A e 6 o p, if_neg (fun u => u y), if_pos (by omega)]
    have en : sn_one A e 7 o p = _ := sn_one_s A e 6 o p
    rw [if_neg (fun u => u y), if_neg (by omega)] at en
    have ln : sl_one A e 7 o p = _ := sl_one_s A e 6 o p
    have co : fw_c (σ 93 60 + 1) = ((o + 1 : Nat) : Int) := by rw [hs.1]; exact fw_s (x := (o : Int) + 1) (by omega) (by omega)
    have cd : fw_c (σ 93 61 + 1) = ((8 - 6 : Nat) : Int) := by rw [hs.2.1]; exact fw_s (x := ((8 - 7 : Nat) : Int) + 1) (by decide) (by decide)
    rw [co, cd]
    have hm1 : mt_is (ab_ups (ab_ups σ 93 60 ((o + 1 : Nat) : Int)) 93 61 ((8 - 6 : Nat) : Int)) e p := mt_ups (mt_ups hm (Or.inr ⟨rfl, by decide⟩)) (Or.inr ⟨rfl, by decide⟩)
    have s1 : sm_is (ab_ups (ab_ups σ 93 60 ((o + 1 : Nat) : Int)) 93 61 ((8 - 6 : Nat) : Int)) (o + 1) (8 - 6) (z + 2) := ⟨(ab_ups_ne (by decide)).trans ab_ups_eq, ab_ups_eq, by rw [ab_ups_ne (by decide), ab_ups_ne (by decide)]; have := hs.2.2; omega⟩
    have M1 : ab_okM sm_M σ (ab_ups (ab_ups σ 93 60 ((o + 1 : Nat) : Int)) 93 61 ((8 - 6 : Nat) : Int)) := fw_okM_ups (fw_okM_ups (fw_okM_refl _ _) (by decide)) (by decide)
    have Q1 : gq σ (ab_ups (ab_ups σ 93 60 ((o + 1 : Nat) : Int)) 93 61 ((8 - 6 : Nat) : Int)) := gq_tr (gq_k (M := [(93, 60)]) okM_one (by decide)) (gq_k (M := [(93, 61)]) okM_one (by decide))
    generalize ab_ups (ab_ups σ 93 60 ((o + 1 : Nat) : Int)) 93 61 ((8 - 6 : Nat) : Int) = σ1 at hm1 s1 M1 Q1 ⊢
    refine mt_go hm1 (fun σ2 N2 hm2 => fs_m_seOne7_94 hG ?_)
    have q2 : gq σ σ2 := gq_tr Q1 (gq_k N2 (by decide))
    have M2 : ab_okM sm_M σ σ2 := ev_tr M1 (ev_up N2 (by decide))
    have s2 : sm_is σ2 (o + 1) (8 - 6) (z + 2) := sm_k s1 N2 (by decide)
    have N2' : NM σ2 A := sm_NM M2 hN
    have no : ∀ r : sn_T, sn_one A e 7 o p = r → r.1 ≠ 0 → ∀ σ' : ab_SG, ab_okM sm_M σ2 σ' → σ' 93 10 = r.1 → σ' 93 11 = r.2.1 → ∀ o1 : Option ab_AV, G 194 [some (2, 93, 0), o1, some (0, 0, w), some (0, 0, 0)] [] σ' := fun r er q σ' M a b o1 => by
      rw [er] at h0
      exact fs_m_seOne7_194 hG ⟨fw_01, h0 q _ (fw_okM_ups (ev_tr M2 M) (by decide)) ((ab_ups_ne (by decide)).trans a) ((ab_ups_ne (by decide)).trans b)⟩
    have ok : ∀ (r : sn_T) (L : sl_T), sn_one A e 7 o p = r → sl_one A e 7 o p = L → r.1 = 0 → ∀ (σ' : ab_SG) (zz h9 : Nat), z + 1 ≤ zz → h9 ≤ r.2.2.1 - o → ab_okM sm_M σ2 σ' → mt_is σ' e r.2.2.2 → sm_is σ' r.2.2.1 (8 - 6) zz → sr σ2 σ' h9 L → ∀ o1 : Option ab_AV, G 194 [some (2, 93, 0), o1, some (0, 0, w), some (0, 0, 1)] [] σ' := fun r L er el q σ' zz h9 hz hh M hm' s' R o1 => by
      rw [er, el] at h1
      have cv : fw_c (σ' 93 61 - 1) = ((8 - 7 : Nat) : Int) := by rw [s'.2.1]; exact fw_s (x := ((8 - 6 : Nat) : Int) - 1) (by decide) (by decide)
      refine fs_m_seOne7_194 hG ⟨fw_11, ?_⟩
      rw [cv]
      exact h1 q _ (fw_okM_ups (ev_tr M2 M) (by decide)) (mt_ups hm' (Or.inr ⟨rfl, by decide⟩)) ⟨(ab_ups_ne (by decide)).trans s'.1, ab_ups_eq, by rw [ab_ups_ne (by decide)]; have := s'.2.2; omega⟩ (sr_k (M := [(93, 61)]) (sr_l q2 hh R) okM_one (by decide))
    have cw : fw_c w = w := fw_s (by omega) (by omega)
    have c9 : fw_c 9 = 9 := fw_s (by decide) (by decide)
    have c10 : fw_c 10 = 10 := fw_s (by decide) (by decide)
    have c11 : fw_c 11 = 11 := fw_s (by decide) (by decide)
    have c12 : fw_c 12 = 12 := fw_s (by decide) (by decide)
    have c2 : fw_c 2 = 2 := fw_s (by decide) (by decide)
    have t1 : (fw_c 1).toNat = 1 := by rw [fw_c1]; rfl
    have t2 : (fw_c 2).toNat = 2 := by rw [c2]; rfl
    have nn := hN.1
    rw [cw, c9, c10, c11, c12, t1, t2, c2, fw_c1]
    refine ⟨fun q5 => ?_, fun q5 => ?_⟩
    · obtain ⟨n4, ew⟩ : (tk e p).1 ≠ 40 ∧ w = tw e p := by
        rcases hb with ⟨b1, -⟩ | ⟨-, k⟩
        · rw [b1] at q5
          exact u1 q5
        · exact k
      rw [if_neg n4] at en ln
      refine ⟨fun w9 => ⟨fun w10 => ⟨fun w11 => ⟨fun w12 => ?_, fun w12 => ⟨rfl, fs_m_seOne7_181 hG ?_⟩⟩, fun w11 => ⟨by decide, ?_⟩⟩, fun w10 => ⟨by decide, ?_⟩⟩, fun w9 => ?_⟩
      · rw [if_neg (by omega), if_neg (by omega), if_neg (by omega), if_neg (by omega)] at en ln
        have wk : 13 ≤ tw e p ∧ tw e p ≤ 16 := by
          have y2 := y.resolve_left n4
          omega
        rw [sk_13 wk, ← ew] at ln
        rw [← ew] at wk
        exact ⟨e, tn e p, o + 1, 8 - 6, z + 1, _, rfl, hm2, ⟨s2, by omega⟩, wk, fun q σ' M a b => fs_m_seOne7_193 hG (no _ en q σ' M a b _), fun q σ' M a b c => fs_m_seOne7_193 hG (ok _ _ en ln q σ' (z + 1) 1 (Nat.le_refl _) (by rw [sn_ms_0 q]; show 1 ≤ o + 1 - o; omega) M a b c _)⟩
      · rw [if_neg (by omega), if_neg (by omega), if_neg (by omega), if_pos (by omega), show (5 : Int) = w - 7 by omega] at ln
        rw [if_neg (by omega), if_neg (by omega), if_neg (by omega), if_pos (by omega)] at en
        rw [(NM_n N2').1]
        exact ⟨A, e, tn e p, o + 1, 8 - 6, z + 1, 0, 57, _, _, rfl, hm2, ⟨s2, by omega⟩, rm_11 N2', ⟨nn.1.1, by omega, by omega⟩, ⟨by omega, by omega⟩, fun q σ' M a b => fs_m_seOne7_184 hG (no _ en q σ' M a b _), fun q σ' M a b c => fs_m_seOne7_184 hG (ok _ _ en ln q σ' (z + 1) 1 (Nat.le_refl _) (by rw [(sn_nm_0 q).2]; show 1 ≤ o + 1 - o; omega) M a b c _)⟩
      · rw [if_neg (by omega), if_neg (by omega), if_pos (by omega), show (4 : Int) = w - 7 by omega] at ln
        rw [if_neg (by omega), if_neg (by omega), if_pos (by omega)] at en
        rw [(NM_n N2').2.2]
        exact ⟨A, e, tn e p, o + 1, 8 - 6, z + 1, 15, 59, _, _, rfl, hm2, ⟨s2, by omega⟩, rm_13 N2', ⟨nn.2.2.1.1, by omega, by omega⟩, ⟨by omega, by omega⟩, fun q σ' M a b => fs_m_seOne7_164 hG (no _ en q σ' M a b _), fun q σ' M a b c => fs_m_seOne7_164 hG (ok _ _ en ln q σ' (z + 1) 1 (Nat.le_refl _) (by rw [(sn_nm_0 q).2]; show 1 ≤ o + 1 - o; omega) M a b c _)⟩
      · rw [if_neg (by omega), if_pos (by omega), show (3 : Int) = w - 7 by omega] at ln
        rw [if_neg (by omega), if_pos (by omega)] at en
        rw [(NM_n N2').2.1]
        exact ⟨A, e, tn e p, o + 1, 8 - 6, z + 1, 9, 58, _, _, rfl, hm2, ⟨s2, by omega⟩, rm_12 N2', ⟨nn.2.1.1, by omega, by omega⟩, ⟨by omega, by omega⟩, fun q σ' M a b => fs_m_seOne7_141 hG (no _ en q σ' M a b _), fun q σ' M a b c => fs_m_seOne7_141 hG (ok _ _ en ln q σ' (z + 1) 1 (Nat.le_refl _) (by rw [(sn_nm_0 q).2]; show 1 ≤ o + 1 - o; omega) M a b c _)⟩
      · rw [if_pos (by omega)] at en ln
        exact ⟨A, e, tn e p, o + 1, z + 2, rfl, ⟨N2', hm2, s2, by omega⟩, fun q σ' M a b => fs_m_seOne7_118 hG (no _ en q σ' M a b _), fun q σ' M a b c => fs_m_seOne7_118 hG (ok _ _ en ln q σ' (z + 2) _ (by omega) (by have g := (sn_one_gr A e 6 (o + 1) (tn e p) (by omega) q).1; omega) M a b c _)⟩
    · have n4 : (tk e p).1 = 40 := by
        rcases hb with ⟨-, k⟩ | ⟨b0, -⟩
        · exact k
        · rw [b0] at q5
          exact u0 q5
      rw [if_pos n4] at en ln
      exact ⟨A, e, tn e p, o + 1, z + 2, rfl, ⟨N2', hm2, s2, by omega⟩, fun q σ' M a b => fs_m_seOne7_104 hG (no _ en q σ' M a b _), fun q σ' M a b c => fs_m_seOne7_104 hG (ok _ _ en ln q σ' (z + 3) _ (by omega) (by omega) M a b c _)⟩
  have g30 : ∀ (b w : Int) (o3 : Option ab_AV), ((b = 1 ∧ (tk e p).1 = 40) ∨ (b = 0 ∧ (tk e p).1 ≠ 40)) → ((w = tw e p ∧ 9 ≤ w ∧ w ≤ 16) ∨ (w = 17 ∧ ¬ (9 ≤ tw e p ∧ tw e p ≤ 16))) → G 30 [some (2, 93, 0), some (0, 0, b), some (0, 0, w), o3] [] σ := by
    intro b w o3 hb hw
    have cw : fw_c w = w := fw_s (by omega) (by omega)
    refine fs_m_seOne7_30 hG ?_
    rw [cw, c16]
    refine ⟨fun q => ?_, fun q => ⟨fun q2 => ?_, fun q2 => ?_⟩⟩
    · rcases hb with ⟨b1, k⟩ | ⟨b0, -⟩
      · exact g46 b w o3 (Or.inl k) (Or.inl ⟨b1, k⟩) ⟨by omega, by omega⟩
      · rw [b0] at q
        exact u0 q
    · rcases hb with ⟨b1, -⟩ | ⟨b0, k⟩
      · rw [b1] at q
        exact u1 q
      · exact g46 b w o3 (Or.inr ⟨by omega, by omega⟩) (Or.inr ⟨b0, k, by omega⟩) ⟨by omega, by omega⟩
    · rcases hb with ⟨b1, -⟩ | ⟨b0, k⟩
      · rw [b1] at q
        exact u1 q
      · have ns : ¬ sn_st e p := fun y => by
          rcases y with y | y
          · exact k y
          · omega
        have en : sn_one A e 7 o p = (1, ev_st e p, o, p) := (sn_one_s A e 6 o p).trans (if_pos ns)
        rw [en] at h0
        refine mp_bad hm.1 (by decide) (fun σ' hM h10 h11 => fs_m_seOne7_45 hG ⟨fw_01, h0 (show (1 : Int) ≠ 0 by decide) σ' (ev_up hM (by decide)) ?_ h11⟩)
        rw [h10]
        split <;> rfl
  have lw : ∀ (f w : Nat) (b : Int) (o3 : Option ab_AV), w + f = 17 → 9 ≤ w → (∀ v : Nat, 9 ≤ v → v < w → tw e p ≠ (v : Int)) → ((b = 1 ∧ (tk e p).1 = 40) ∨ (b = 0 ∧ (tk e p).1 ≠ 40)) → G 10 [some (2, 93, 0), some (0, 0, b), some (0, 0, (w : Int)), o3] [] σ := by
    intro f
    induction f with
    | zero =>
      intro w b o3 hf h9 hv hb
      have ew : w = 17 := by omega
      subst ew
      refine fs_m_seOne7_10 hG ⟨fun _ => g30 b _ o3 hb (Or.inr ⟨rfl, fun y => ?_⟩), fun q => absurd q (by rw [c16]; decide)⟩
      have := hv (tw e p).toNat (by omega) (by omega)
      omega
    | succ f ih =>
      intro w b o3 hf h9 hv hb
      have cw : fw_c (w : Int) = (w : Int) := fw_s (by omega) (by omega)
      refine fs_m_seOne7_10 hG ⟨fun q => absurd q (by rw [c16, cw]; omega), fun _ => ⟨w, e, p, rfl, by omega, hm.1, ?_⟩⟩
      by_cases c : tw e p = (w : Int)
      · rw [fw_bo_t c]
        exact fs_m_seOne7_21 hG ⟨fun _ => g30 b _ o3 hb (Or.inl ⟨c.symm, by omega, by omega⟩), u1⟩
      · rw [fw_bo_f c]
        refine fs_m_seOne7_21 hG ⟨u0, fun _ => ?_⟩
        have g := ih (w + 1) b o3 (by omega) (by omega) (fun v h1 h2 => by
          by_cases y : v = w
          · rw [y]
            exact c
          · exact hv v h1 (by omega)) hb
        rw [show ((w + 1 : Nat) : Int) = (w : Int) + 1 from rfl] at g
        exact g
  refine fs_m_seOne7_0 hG ⟨40, e, p, rfl, Or.inr (Or.inr (Or.inl rfl)), hm.1, ?_⟩
  by_cases c : (tk e p).1 = 40
  · rw [fw_bo_t c]
    exact fs_m_seOne7_6 hG (lw 8 9 1 _ rfl (by decide) (fun v h1 h2 => by omega) (Or.inl ⟨rfl, c⟩))
  · rw [fw_bo_f c]
    exact fs_m_seOne7_6 hG (lw 8 9 0 _ rfl (by decide) (fun v h1 h2 => by omega) (Or.inr ⟨rfl, c⟩)))
theorem fm_m_seNot7 (hinj : nn_inj ad) : fw_H l cy ad wr cr D 346 34 (sp_m_seNot 7) := fw_mk hinj (⟨"NameNotesModel", "readNot", "()Z"⟩, prog_14_method_143_code, 1, (Option.some Jvm.ClassFile.FieldType.boolean), 0, true, 1) rfl rfl nn_KI20_ok nn_KJ20_ok nn_PF20_ok nn_PS20_ok (by decide +kernel) rfl rfl (List.forall_mem_cons.mpr ⟨fw_row nn_PM20_ok (x := 498) (k := 0) (mn := 347) (np := 4) (ob := true) (ci := 11) (⟨"NameNotesModel", "saysOne", "(IIII)I"⟩, prog_14_method_139_code, 6, (Option.some Jvm.ClassFile.FieldType.int), 4, true, 0) rfl (by decide +kernel) rfl rfl (by decide) (fun _ => ⟨_, _, rfl⟩) (fm_m_saysOne hinj), (List.forall_mem_cons.mpr ⟨fw_row nn_PM20_ok (x := 501) (k := 0) (mn := 344) (np := 0) (ob := true) (ci := 11) (⟨"NameNotesModel", "readOne", "()Z"⟩, prog_14_method_142_code, 4, (Option.some Jvm.ClassFile.FieldType.boolean), 0, true, 1) rfl (by decide +kernel) rfl rfl (by decide) (fun _ => ⟨_, _, rfl⟩) (fm_m_seOne7 hinj), (fun _ h => absurd h List.not_mem_nil)⟩)⟩) (fun as σ K h => by
  obtain ⟨A, e, p, o, z, rfl, hp, h0, h1⟩ := h
  have u0 : ∀ {X : Prop}, fw_c 0 ≠ 0 → X := fun z => absurd fw_c0 z
  have u1 : ∀ {X : Prop}, fw_c 1 = 0 → X := fun z => absurd (fw_c1.symm.trans z) (by decide)
  refine ⟨rfl, fun G hG => fs_m_seNot7_0 hG ⟨A, e, p, o, z, rfl, hp, fun q σ' M a b => fs_m_seNot7_4 hG ⟨u0, fun _ => ⟨fw_01, h0 q σ' M a b⟩⟩, fun q σ1 M1 hm1 s1 R1 => fs_m_seNot7_4 hG ⟨fun _ => ⟨_, _, _, _, rfl, ⟨s1.2.2.1, ?_⟩, fun v σ2 M2 e59 ev hd => fs_m_seNot7_21 hG ⟨fw_11, ?_⟩⟩, u1⟩⟩⟩
  · have gr := (sn_one_gr A e 7 o p hp.2.2.2 q).2
    have := s1.2.2.2
    omega
  · exact h1 q _ (fw_okM_ups (ev_tr M1 (ev_up M2 (by decide))) (by decide)) (mt_ups (mt_M hm1 M2 (by decide) (by decide)) (Or.inr ⟨rfl, by decide⟩)) (sm_k (M := [(93, 62)]) (sm_s s1 M2 e59) okM_one (by decide)) (by
      have gr := (sn_one_gr A e 7 o p hp.2.2.2 q).2
      have b59 := s1.2.2
      refine sr_top (gq_tr R1.1 (ne_g e59 hd)) (by omega) ?_
      rw [ev]
      exact rp_not ⟨b59.1, by omega⟩ R1.2 e59 hd))
theorem fm_m_seAnd7 (hinj : nn_inj ad) : fw_H l cy ad wr cr D 343 34 (sp_m_seAnd 7) := fw_mk hinj (⟨"NameNotesModel", "readAnd", "()Z"⟩, prog_14_method_141_code, 2, (Option.some Jvm.ClassFile.FieldType.boolean), 0, true, 1) rfl rfl nn_KI20_ok nn_KJ20_ok nn_PF20_ok nn_PS20_ok (by decide +kernel) rfl rfl (List.forall_mem_cons.mpr ⟨fw_row nn_PM20_ok (x := 182) (k := 0) (mn := 212) (np := 0) (ob := true) (ci := 11) (⟨"NameNotesModel", "go", "()V"⟩, prog_14_method_17_code, 5, (Option.none : Option Jvm.ClassFile.FieldType), 0, true, 4) rfl (by decide +kernel) rfl rfl (by decide) (fun _ => ⟨_, _, rfl⟩) (fm_m_go hinj), (List.forall_mem_cons.mpr ⟨fw_row nn_PM20_ok (x := 225) (k := 0) (mn := 217) (np := 1) (ob := true) (ci := 11) (⟨"NameNotesModel", "isWord", "(I)Z"⟩, prog_14_method_20_code, 2, (Option.some Jvm.ClassFile.FieldType.boolean), 1, true, 1) rfl (by decide +kernel) rfl rfl (by decide) (fun _ => ⟨_, _, rfl⟩) (fm_m_isWord hinj), (List.forall_mem_cons.mpr ⟨fw_row nn_PM20_ok (x := 498) (k := 0) (mn := 347) (np := 4) (ob := true) (ci := 11) (⟨"NameNotesModel", "saysOne", "(IIII)I"⟩, prog_14_method_139_code, 6, (Option.some Jvm.ClassFile.FieldType.int), 4, true, 0) rfl (by decide +kernel) rfl rfl (by decide) (fun _ => ⟨_, _, rfl⟩) (fm_m_saysOne hinj), (List.forall_mem_cons.mpr ⟨fw_row nn_PM20_ok (x := 501) (k := 0) (mn := 344) (np := 0) (ob := true) (ci := 11) (⟨"NameNotesModel", "readOne", "()Z"⟩, prog_14_method_142_code, 4, (Option.some Jvm.ClassFile.FieldType.boolean), 0, true, 1) rfl (by decide +kernel) rfl rfl (by decide) (fun _ => ⟨_, _, rfl⟩) (fm_m_seOne7 hinj), (fun _ h => absurd h List.not_mem_nil)⟩)⟩)⟩)⟩) (fun as σ K h => by
  obtain ⟨A, e, p, o, z, g, rfl, ⟨hN, hm, hs, ho⟩, hg, h⟩ := h
  obtain ⟨h0, h1⟩ := h _ rfl
  have u0 : ∀ {X : Prop}, fw_c 0 ≠ 0 → X := fun z => absurd fw_c0 z
  have u1 : ∀ {X : Prop}, fw_c 1 = 0 → X := fun z => absurd (fw_c1.symm.trans z) (by decide)
  have og := sn_one_gr A e 7
  refine ⟨rfl, fun G hG => fs_m_seAnd7_0 hG ⟨A, e, p, o, z, rfl, ⟨hN, hm, hs, ho⟩, fun q σ' M a b => fs_m_seAnd7_4 hG ⟨u0, fun _ => ⟨fw_01, ?_⟩⟩, fun q σ1 M1 hm1 s1 R1 => fs_m_seAnd7_4 hG ⟨fun _ => ?_, u1⟩⟩⟩
  · rw [if_pos q] at h0
    exact h0 q σ' M a b
  · rw [if_neg (fun u => u q)] at h0 h1
    have gr := og o p ho q
    have loop : ∀ (f g1 o1 p1 : Nat) (τ : ab_SG) (a1 : Int) (LA : sl_T), 20 < f + o1 → 21 ≤ g1 + o1 → o + 1 ≤ o1 → o1 ≤ 20 → ab_okM sm_M σ τ → mt_is τ e p1 → sm_is τ o1 (8 - 7) (z + 1) → gq σ τ → rp (τ 121) (τ 93 59) (o1 - o) a1 LA → (∀ w : Bool, sl_one A e 7 o p ++ sl_lp (sn_one A e 7) (sl_one A e 7) e g w (sn_one A e 7 o p).2.2.1 (sn_one A e 7 o p).2.2.2 = LA ++ sl_lp (sn_one A e 7) (sl_one A e 7) e g1 w o1 p1) → sn_lp (sn_one A e 7) e g (sn_one A e 7 o p).2.2.1 (sn_one A e 7 o p).2.2.2 = sn_lp (sn_one A e 7) e g1 o1 p1 → G 14 [some (2, 93, 0), some (0, 0, a1)] [] τ := by
      intro f
      induction f with
      | zero =>
        intro g1 o1 p1 τ a1 LA hf _ _ h20 _ _ _ _ _ _ _
        omega
      | succ f ih =>
        intro g1 o1 p1 τ a1 LA hf hg1 ho1 h20 M hm' s' Q R hw hr
        refine fs_m_seAnd7_14 hG ⟨8, e, p1, rfl, by decide, hm'.1, ?_⟩
        show G 20 _ [(0, 0, fw_bo (tw e p1 = ((8 : Nat) : Int)))] τ
        by_cases c : tw e p1 = ((8 : Nat) : Int)
        · rw [fw_bo_t c]
          replace c : tw e p1 = 8 := c
          obtain ⟨g2, rfl⟩ : ∃ g2, g1 = g2 + 1 := ⟨g1 - 1, by omega⟩
          rw [sn_lps, if_pos (Or.inl c)] at hr
          refine fs_m_seAnd7_20 hG ⟨u1, fun _ => mt_go hm' (fun τ2 N2 hm2 => fs_m_seAnd7_27 hG ?_)⟩
          have M2 : ab_okM sm_M σ τ2 := ev_tr M (ev_up N2 (by decide))
          refine ⟨A, e, tn e p1, o1, z + 1, rfl, ⟨sm_NM M2 hN, hm2, sm_k s' N2 (by decide), h20⟩, fun q2 σ' M' a b => fs_m_seAnd7_31 hG ⟨u0, fun _ => ⟨fw_01, ?_⟩⟩, fun q2 τ3 M3 hm3 s3 R3 => fs_m_seAnd7_31 hG ⟨fun _ => ?_, u1⟩⟩
          · rw [if_pos q2] at hr
            rw [hr] at h0
            exact h0 q2 σ' (ev_tr M2 M') a b
          · rw [if_neg (fun u => u q2)] at hr
            have gr2 := og o1 (tn e p1) h20 q2
            have b59 := s3.2.2
            have Q3 : gq τ τ3 := gq_tr (gq_k N2 (by decide)) R3.1
            exact ⟨_, _, _, _, rfl, ⟨s3.2.2.1, by have := s3.2.2.2; omega⟩, fun v τ4 M4 e59 ev hd => fs_m_seAnd7_47 hG (ih g2 _ _ τ4 v (LA ++ (sl_one A e 7 o1 (tn e p1) ++ [(1, 0)])) (by omega) (by omega) (by omega) gr2.2 (ev_tr (ev_tr M2 M3) (ev_up M4 (by decide))) (mt_M hm3 M4 (by decide) (by decide)) (sm_s s3 M4 e59) (gq_tr (gq_tr Q Q3) (ne_g e59 hd)) (by
              rw [ev]
              exact rp_and (h := (sn_one A e 7 o1 (tn e p1)).2.2.1 - o) ⟨b59.1, by omega⟩ (rp_g Q3 (Nat.le_refl _) R) R3.2 e59 hd (by omega) (by omega)) (fun w => by
              rw [hw w, sl_lps, if_pos c, List.append_assoc, List.append_assoc]) hr)⟩
        · rw [fw_bo_f c]
          exact fs_m_seAnd7_20 hG ⟨fun _ => ⟨fw_11, h1 g1 o1 p1 _ hr c hg1 ho1 h20 (fw_okM_ups M (by decide)) (mt_ups hm' (Or.inr ⟨rfl, by decide⟩)) (sm_k (M := [(93, 62)]) s' okM_one (by decide)) LA hw (sr_top Q (by have := s'.2.2; omega) R)⟩, u0⟩
    exact loop 21 g _ _ σ1 _ _ (by omega) (by omega) gr.1 gr.2 M1 hm1 s1 R1.1 R1.2 (fun _ => rfl) rfl)
theorem fm_m_seOr7 (hinj : nn_inj ad) : fw_H l cy ad wr cr D 342 35 (sp_m_seOr 7) := fw_mk hinj (⟨"NameNotesModel", "readOr", "()Z"⟩, prog_14_method_140_code, 2, (Option.some Jvm.ClassFile.FieldType.boolean), 0, true, 1) rfl rfl nn_KI20_ok nn_KJ20_ok nn_PF20_ok nn_PS20_ok (by decide +kernel) rfl rfl (List.forall_mem_cons.mpr ⟨fw_row nn_PM20_ok (x := 182) (k := 0) (mn := 212) (np := 0) (ob := true) (ci := 11) (⟨"NameNotesModel", "go", "()V"⟩, prog_14_method_17_code, 5, (Option.none : Option Jvm.ClassFile.FieldType), 0, true, 4) rfl (by decide +kernel) rfl rfl (by decide) (fun _ => ⟨_, _, rfl⟩) (fm_m_go hinj), (List.forall_mem_cons.mpr ⟨fw_row nn_PM20_ok (x := 225) (k := 0) (mn := 217) (np := 1) (ob := true) (ci := 11) (⟨"NameNotesModel", "isWord", "(I)Z"⟩, prog_14_method_20_code, 2, (Option.some Jvm.ClassFile.FieldType.boolean), 1, true, 1) rfl (by decide +kernel) rfl rfl (by decide) (fun _ => ⟨_, _, rfl⟩) (fm_m_isWord hinj), (List.forall_mem_cons.mpr ⟨fw_row nn_PM20_ok (x := 492) (k := 0) (mn := 343) (np := 0) (ob := true) (ci := 11) (⟨"NameNotesModel", "readAnd", "()Z"⟩, prog_14_method_141_code, 2, (Option.some Jvm.ClassFile.FieldType.boolean), 0, true, 1) rfl (by decide +kernel) rfl rfl (by decide) (fun _ => ⟨_, _, rfl⟩) (fm_m_seAnd7 hinj), (List.forall_mem_cons.mpr ⟨fw_row nn_PM20_ok (x := 498) (k := 0) (mn := 347) (np := 4) (ob := true) (ci := 11) (⟨"NameNotesModel", "saysOne", "(IIII)I"⟩, prog_14_method_139_code, 6, (Option.some Jvm.ClassFile.FieldType.int), 4, true, 0) rfl (by decide +kernel) rfl rfl (by decide) (fun _ => ⟨_, _, rfl⟩) (fm_m_saysOne hinj), (fun _ h => absurd h List.not_mem_nil)⟩)⟩)⟩)⟩) (fun as σ K h => by
  obtain ⟨A, e, p, o, z, rfl, hp, h0, h1⟩ := h
  have u0 : ∀ {X : Prop}, fw_c 0 ≠ 0 → X := fun z => absurd fw_c0 z
  have u1 : ∀ {X : Prop}, fw_c 1 = 0 → X := fun z => absurd (fw_c1.symm.trans z) (by decide)
  refine ⟨rfl, fun G hG => ?_⟩
  have loop : ∀ (f g1 o1 p1 : Nat) (τ : ab_SG) (a1 : Int) (LO : sl_T), 20 < f + o1 → 21 ≤ g1 + o1 → o + 1 ≤ o1 → o1 ≤ 20 → tw e p1 ≠ 8 → ab_okM sm_M σ τ → mt_is τ e p1 → sm_is τ o1 (8 - 7) (z + 1) → gq σ τ → rp (τ 121) (τ 93 59) (o1 - o) a1 LO → sl_cd (sn_one A e 7) (sl_one A e 7) e o p = LO ++ sl_lp (sn_one A e 7) (sl_one A e 7) e g1 false o1 p1 → sn_cd (sn_one A e 7) e o p = sn_lp (sn_one A e 7) e g1 o1 p1 → G 14 [some (2, 93, 0), some (0, 0, a1)] [] τ := by
    intro f
    induction f with
    | zero =>
      intro g1 o1 p1 τ a1 LO hf _ _ h20 _ _ _ _ _ _ _ _
      omega
    | succ f ih =>
      intro g1 o1 p1 τ a1 LO hf hg1 ho1 h20 c8 M hm' s' Q R hw hr
      obtain ⟨g2, rfl⟩ : ∃ g2, g1 = g2 + 1 := ⟨g1 - 1, by omega⟩
      rw [sn_lps] at hr
      rw [sl_lps, if_neg c8] at hw
      refine fs_m_seOr7_14 hG ⟨7, e, p1, rfl, by decide, hm'.1, ?_⟩
      show G 20 _ [(0, 0, fw_bo (tw e p1 = ((7 : Nat) : Int)))] τ
      by_cases c : tw e p1 = ((7 : Nat) : Int)
      · rw [fw_bo_t c]
        replace c : tw e p1 = 7 := c
        rw [if_pos (Or.inr c)] at hr
        rw [if_pos c] at hw
        refine fs_m_seOr7_20 hG ⟨u1, fun _ => mt_go hm' (fun τ2 N2 hm2 => fs_m_seOr7_27 hG ?_)⟩
        have M2 : ab_okM sm_M σ τ2 := ev_tr M (ev_up N2 (by decide))
        refine ⟨A, e, tn e p1, o1, z + 1, g2, rfl, ⟨sm_NM M2 hp.1, hm2, sm_k s' N2 (by decide), h20⟩, by omega, fun F eF => ⟨fun q σ' M' a b => fs_m_seOr7_31 hG ⟨u0, fun _ => ⟨fw_01, ?_⟩⟩, fun g3 o3 p3 τ3 e3 c3 hg3 ho3 h203 M3 hm3 s3 L3 w3 R3 => fs_m_seOr7_31 hG ⟨fun _ => ?_, u1⟩⟩⟩
        · rw [hr.trans eF.symm] at h0
          exact h0 q σ' (ev_tr M2 M') a b
        · have b59 := s3.2.2
          have Q3 : gq τ τ3 := gq_tr (gq_k N2 (by decide)) R3.1
          exact ⟨_, _, _, _, rfl, ⟨s3.2.2.1, by have := s3.2.2.2; omega⟩, fun v τ4 M4 e59 ev hd => fs_m_seOr7_47 hG (ih g3 o3 p3 τ4 v (LO ++ (L3 ++ [(2, 0)])) (by omega) hg3 (by omega) h203 c3 (ev_tr (ev_tr M2 M3) (ev_up M4 (by decide))) (mt_M hm3 M4 (by decide) (by decide)) (sm_s s3 M4 e59) (gq_tr (gq_tr Q Q3) (ne_g e59 hd)) (by
            rw [ev]
            exact rp_or (h := o3 - o) ⟨b59.1, by omega⟩ (rp_g Q3 (Nat.le_refl _) R) R3.2 e59 hd (by omega) (by omega)) (by
            have w4 := w3 true
            rw [sl_lp_t c3] at w4
            rw [hw, w4, List.append_assoc, List.append_assoc]
            rfl) ((hr.trans eF.symm).trans e3))⟩
      · rw [fw_bo_f c]
        replace c : tw e p1 ≠ 7 := c
        rw [if_neg (fun u => u.elim c8 c)] at hr
        rw [if_neg c] at hw
        rw [hr, hw] at h1
        exact fs_m_seOr7_20 hG ⟨fun _ => ⟨fw_11, h1 rfl _ (fw_okM_ups M (by decide)) (mt_ups hm' (Or.inr ⟨rfl, by decide⟩)) (sm_k (M := [(93, 62)]) s' okM_one (by decide)) (by
          rw [show fl false = [] from rfl, List.append_nil]
          exact sr_top Q (by have := s'.2.2; omega) R)⟩, u0⟩
  refine fs_m_seOr7_0 hG ⟨A, e, p, o, z, 20, rfl, hp, by omega, fun F eF => ⟨fun q σ' M a b => fs_m_seOr7_4 hG ⟨u0, fun _ => ⟨fw_01, ?_⟩⟩, fun g' o' p' σ1 eq c8 hg ho1 ho2 M1 hm1 s1 LA wA RA => fs_m_seOr7_4 hG ⟨fun _ => ?_, u1⟩⟩⟩
  · have ec : sn_cd (sn_one A e 7) e o p = F := eF.symm
    rw [ec] at h0
    exact h0 q σ' M a b
  · have ec : sn_cd (sn_one A e 7) e o p = F := eF.symm
    exact loop 21 g' o' p' σ1 _ LA (by omega) hg ho1 ho2 c8 M1 hm1 s1 RA.1 RA.2 (wA false) (ec.trans eq))
theorem fm_m_seBr7 (hinj : nn_inj ad) : fw_H l cy ad wr cr D 345 36 (sp_m_seBr 7) := fw_mk hinj (⟨"NameNotesModel", "readBracket", "()Z"⟩, prog_14_method_144_code, 1, (Option.some Jvm.ClassFile.FieldType.boolean), 0, true, 1) rfl rfl nn_KI20_ok nn_KJ20_ok nn_PF20_ok nn_PS20_ok (by decide +kernel) rfl rfl (List.forall_mem_cons.mpr ⟨fw_row nn_PM20_ok (x := 168) (k := 0) (mn := 221) (np := 1) (ob := true) (ci := 11) (⟨"NameNotesModel", "bad", "(I)Z"⟩, prog_14_method_23_code, 2, (Option.some Jvm.ClassFile.FieldType.boolean), 1, true, 1) rfl (by decide +kernel) rfl rfl (by decide) (fun _ => ⟨_, _, rfl⟩) (fm_m_bad hinj), (List.forall_mem_cons.mpr ⟨fw_row nn_PM20_ok (x := 182) (k := 0) (mn := 212) (np := 0) (ob := true) (ci := 11) (⟨"NameNotesModel", "go", "()V"⟩, prog_14_method_17_code, 5, (Option.none : Option Jvm.ClassFile.FieldType), 0, true, 4) rfl (by decide +kernel) rfl rfl (by decide) (fun _ => ⟨_, _, rfl⟩) (fm_m_go hinj), (List.forall_mem_cons.mpr ⟨fw_row nn_PM20_ok (x := 185) (k := 0) (mn := 236) (np := 1) (ob := true) (ci := 11) (⟨"NameNotesModel", "isSign", "(I)Z"⟩, prog_14_method_21_code, 2, (Option.some Jvm.ClassFile.FieldType.boolean), 1, true, 1) rfl (by decide +kernel) rfl rfl (by decide) (fun _ => ⟨_, _, rfl⟩) (fm_m_isSign hinj), (List.forall_mem_cons.mpr ⟨fw_row nn_PM20_ok (x := 522) (k := 0) (mn := 342) (np := 0) (ob := true) (ci := 11) (⟨"NameNotesModel", "readOr", "()Z"⟩, prog_14_method_140_code, 2, (Option.some Jvm.ClassFile.FieldType.boolean), 0, true, 1) rfl (by decide +kernel) rfl rfl (by decide) (fun _ => ⟨_, _, rfl⟩) (fm_m_seOr7 hinj), (fun _ h => absurd h List.not_mem_nil)⟩)⟩)⟩)⟩) (fun as σ K h => by
  obtain ⟨A, e, p, o, z, rfl, hp, h0, h1⟩ := h
  have u0 : ∀ {X : Prop}, fw_c 0 ≠ 0 → X := fun z => absurd fw_c0 z
  have u1 : ∀ {X : Prop}, fw_c 1 = 0 → X := fun z => absurd (fw_c1.symm.trans z) (by decide)
  refine ⟨rfl, fun G hG => fs_m_seBr7_0 hG ⟨A, e, p, o, z, rfl, hp, ?_⟩⟩
  generalize sn_cd (sn_one A e 7) e o p = r at h0 h1 ⊢
  refine ⟨fun q σ' M a b => fs_m_seBr7_4 hG ⟨u0, fun _ => ⟨fw_01, ?_⟩⟩, fun q σ1 M1 hm1 s1 R1 => fs_m_seBr7_4 hG ⟨fun _ => ⟨41, e, r.2.2.2, rfl, Or.inr (Or.inr (Or.inr rfl)), hm1.1, ?_⟩, u1⟩⟩
  · rw [show sn_br e r = r from if_pos q] at h0
    exact h0 q σ' M a b
  · show G 15 _ [(0, 0, fw_bo ((tk e r.2.2.2).1 = 41))] σ1
    by_cases c : (tk e r.2.2.2).1 = 41
    · rw [fw_bo_t c]
      have eb : sn_br e r = (0, 0, r.2.2.1, tn e r.2.2.2) := (if_neg (fun u => u q)).trans (if_neg (fun u => u c))
      rw [eb] at h1
      exact fs_m_seBr7_15 hG ⟨fun _ => mt_go hm1 (fun σ2 N2 hm2 => fs_m_seBr7_28 hG ⟨fw_11, h1 rfl σ2 (ev_tr M1 (ev_up N2 (by decide))) hm2 (sm_k s1 N2 (by decide)) (sr_k R1 N2 (by decide))⟩), u1⟩
    · rw [fw_bo_f c]
      have eb : sn_br e r = (1, ev_st e r.2.2.2, r.2.2.1, r.2.2.2) := (if_neg (fun u => u q)).trans (if_pos c)
      rw [eb] at h0
      refine fs_m_seBr7_15 hG ⟨u0, fun _ => mp_bad hm1.1 (by decide) (fun σ' hM h10 h11 => fs_m_seBr7_23 hG ⟨fw_01, h0 (show (1 : Int) ≠ 0 by decide) σ' (ev_tr M1 (ev_up hM (by decide))) ?_ h11⟩)⟩
      rw [h10]
      split <;> rfl)
end
abbrev fk_m_seOne8 : List fw_CR := [(168, 1, true, 11, 0, sp_m_bad), (182, 0, true, 11, 1, sp_m_go), (185, 1, true, 11, 0, sp_m_isSign), (225, 1, true, 11, 2, sp_m_isWord), (261, 0, true, 11, 0, sp_m_tunes), (510, 0, true, 11, 36, sp_m_seBr 7), (513, 0, true, 11, 34, sp_m_seNot 7), (516, 3, true, 11, 3, sp_m_seOf), (519, 1, true, 11, 3, sp_m_seCmp)]
abbrev st_m_seOne8 : fw_K → fw_KR → fw_K := fw_st vwCl nn_sh nn_kd fw_kv fw_wc (nn_KI20.map (fun x => x.1)) (nn_KJ20.map (fun x => x.1)) (nn_PF20.map (fun x => x.1)) (nn_PS20.map (fun x => x.1)) fk_m_seOne8 37 nn_dt344 4 1
theorem fs_m_seOne8_0 {G : fw_K} {R : fw_KR} (hG : fw_cls st_m_seOne8 R G) {σ : ab_SG} (h : sp_m_isSign [(2, 93, 0), (0, 0, 40)] σ (fun rv σ2 => G 6 [some (2, 93, 0), none, none, none] (rv.toList ++ []) σ2)) : G 0 [some (2, 93, 0), none, none, none] [] σ := fw_on hG [6, 10, 21, 30, 45, 46, 64, 69, 94, 104, 118, 141, 164, 181, 184, 193, 194] 200 h
theorem fs_m_seOne8_6 {G : fw_K} {R : fw_KR} (hG : fw_cls st_m_seOne8 R G) {b0 : Int} {o1 o3 : Option ab_AV} {σ : ab_SG} (h : G 10 [some (2, 93, 0), some (0, 0, b0), some (0, 0, 9), o3] [] σ) : G 6 [some (2, 93, 0), o1, none, o3] [(0, 0, b0)] σ := fw_on hG [6, 10, 21, 30, 45, 46, 64, 69, 94, 104, 118, 141, 164, 181, 184, 193, 194] 200 h
theorem fs_m_seOne8_10 {G : fw_K} {R : fw_KR} (hG : fw_cls st_m_seOne8 R G) {a1 a2 : Int} {o3 : Option ab_AV} {σ : ab_SG} (h : (fw_c 16 < fw_c a2 → G 30 [some (2, 93, 0), some (0, 0, a1), some (0, 0, a2), o3] [] σ) ∧ (fw_c a2 ≤ fw_c 16 → sp_m_isWord [(2, 93, 0), (0, 0, a2)] σ (fun rv σ2 => G 21 [some (2, 93, 0), some (0, 0, a1), some (0, 0, a2), o3] (rv.toList ++ []) σ2))) : G 10 [some (2, 93, 0), some (0, 0, a1), some (0, 0, a2), o3] [] σ := fw_on hG [6, 10, 21, 30, 45, 46, 64, 69, 94, 104, 118, 141, 164, 181, 184, 193, 194] 200 h
theorem fs_m_seOne8_30 {G : fw_K} {R : fw_KR} (hG : fw_cls st_m_seOne8 R G) {a1 a2 : Int} {o3 : Option ab_AV} {σ : ab_SG} (h : (fw_c a1 ≠ 0 → G 46 [some (2, 93, 0), some (0, 0, a1), some (0, 0, a2), o3] [] σ) ∧ (fw_c a1 = 0 → (fw_c a2 ≤ fw_c 16 → G 46 [some (2, 93, 0), some (0, 0, a1), some (0, 0, a2), o3] [] σ) ∧ (fw_c 16 < fw_c a2 → sp_m_bad [(2, 93, 0), (0, 0, 1)] σ (fun rv σ2 => G 45 [some (2, 93, 0), some (0, 0, a1), some (0, 0, a2), o3] (rv.toList ++ []) σ2)))) : G 30 [some (2, 93, 0), some (0, 0, a1), some (0, 0, a2), o3] [] σ := fw_on hG [6, 10, 21, 30, 45, 46, 64, 69, 94, 104, 118, 141, 164, 181, 184, 193, 194] 200 h
theorem fs_m_seOne8_21 {G : fw_K} {R : fw_KR} (hG : fw_cls st_m_seOne8 R G) {a1 a2 b0 : Int} {o3 : Option ab_AV} {σ : ab_SG} (h : (fw_c b0 ≠ 0 → G 30 [some (2, 93, 0), some (0, 0, a1), some (0, 0, a2), o3] [] σ) ∧ (fw_c b0 = 0 → G 10 [some (2, 93, 0), some (0, 0, a1), some (0, 0, a2 + 1), o3] [] σ)) : G 21 [some (2, 93, 0), some (0, 0, a1), some (0, 0, a2), o3] [(0, 0, b0)] σ := fw_on hG [6, 10, 21, 30, 45, 46, 64, 69, 94, 104, 118, 141, 164, 181, 184, 193, 194] 200 h
theorem fs_m_seOne8_46 {G : fw_K} {R : fw_KR} (hG : fw_cls st_m_seOne8 R G) {a1 a2 : Int} {o3 : Option ab_AV} {σ : ab_SG} (h : (fw_c (σ 93 60) = fw_c 20 → G 64 [some (2, 93, 0), some (0, 0, a1), some (0, 0, a2), o3] [] σ) ∧ (fw_c (σ 93 60) ≠ fw_c 20 → (fw_c (σ 93 61) ≠ fw_c 8 → sp_m_go [(2, 93, 0)] (ab_ups (ab_ups σ 93 60 (fw_c ((σ 93 60) + 1))) 93 61 (fw_c ((σ 93 61) + 1))) (fun rv σ2 => G 94 [some (2, 93, 0), some (0, 0, a1), some (0, 0, a2), o3] (rv.toList ++ []) σ2)) ∧ (fw_c (σ 93 61) = fw_c 8 → G 64 [some (2, 93, 0), some (0, 0, a1), some (0, 0, a2), o3] [] σ))) : G 46 [some (2, 93, 0), some (0, 0, a1), some (0, 0, a2), o3] [] σ := fw_on hG [6, 10, 21, 30, 45, 46, 64, 69, 94, 104, 118, 141, 164, 181, 184, 193, 194] 200 h
theorem fs_m_seOne8_45 {G : fw_K} {R : fw_KR} (hG : fw_cls st_m_seOne8 R G) {a2 b0 : Int} {o1 o3 : Option ab_AV} {σ : ab_SG} (h : (0 ≤ fw_c b0 ∧ fw_c b0 ≤ 1) ∧ R (some (0, 0, b0)) σ) : G 45 [some (2, 93, 0), o1, some (0, 0, a2), o3] [(0, 0, b0)] σ := fw_on hG [6, 10, 21, 30, 45, 46, 64, 69, 94, 104, 118, 141, 164, 181, 184, 193, 194] 200 h
theorem fs_m_seOne8_64 {G : fw_K} {R : fw_KR} (hG : fw_cls st_m_seOne8 R G) {a2 : Int} {o1 o3 : Option ab_AV} {σ : ab_SG} (h : sp_m_bad [(2, 93, 0), (0, 0, 4)] σ (fun rv σ2 => G 69 [some (2, 93, 0), o1, some (0, 0, a2), o3] (rv.toList ++ []) σ2)) : G 64 [some (2, 93, 0), o1, some (0, 0, a2), o3] [] σ := fw_on hG [6, 10, 21, 30, 45, 46, 64, 69, 94, 104, 118, 141, 164, 181, 184, 193, 194] 200 h
theorem fs_m_seOne8_94 {G : fw_K} {R : fw_KR} (hG : fw_cls st_m_seOne8 R G) {a1 a2 : Int} {o3 : Option ab_AV} {σ : ab_SG} (h : (fw_c a1 = 0 → (fw_c a2 ≠ fw_c 9 → (fw_c a2 ≠ fw_c 10 → (fw_c a2 ≠ fw_c 11 → (fw_c a2 ≠ fw_c 12 → sp_m_seCmp [(2, 93, 0), (0, 0, a2)] σ (fun rv σ2 => G 193 [some (2, 93, 0), some (0, 0, a1), some (0, 0, a2), some (0, 0, 1)] (rv.toList ++ []) σ2)) ∧ (fw_c a2 = fw_c 12 → sp_m_tunes [(2, 93, 0)] σ (fun rv σ2 => G 181 [some (2, 93, 0), some (0, 0, a1), some (0, 0, a2), some (0, 0, 1)] (rv.toList ++ [(0, 0, 0), (0, 0, a2), (2, 93, 0)]) σ2))) ∧ (fw_c a2 = fw_c 11 → (0 ≤ fw_c 2 ∧ fw_c 2 < ((474 : Nat) : Int)) ∧ (sp_m_seOf [(2, 93, 0), (0, 0, a2), (0, 0, 15), (0, 0, σ 95 (fw_c 2).toNat)] σ (fun rv σ2 => G 164 [some (2, 93, 0), some (0, 0, a1), some (0, 0, a2), some (0, 0, 1)] (rv.toList ++ []) σ2)))) ∧ (fw_c a2 = fw_c 10 → (0 ≤ fw_c 1 ∧ fw_c 1 < ((474 : Nat) : Int)) ∧ (sp_m_seOf [(2, 93, 0), (0, 0, a2), (0, 0, 9), (0, 0, σ 95 (fw_c 1).toNat)] σ (fun rv σ2 => G 141 [some (2, 93, 0), some (0, 0, a1), some (0, 0, a2), some (0, 0, 1)] (rv.toList ++ []) σ2)))) ∧ (fw_c a2 = fw_c 9 → sp_m_seNot 7 [(2, 93, 0)] σ (fun rv σ2 => G 118 [some (2, 93, 0), some (0, 0, a1), some (0, 0, a2), some (0, 0, 1)] (rv.toList ++ []) σ2))) ∧ (fw_c a1 ≠ 0 → sp_m_seBr 7 [(2, 93, 0)] σ (fun rv σ2 => G 104 [some (2, 93, 0), some (0, 0, a1), some (0, 0, a2), some (0, 0, 1)] (rv.toList ++ []) σ2))) : G 94 [some (2, 93, 0), some (0, 0, a1), some (0, 0, a2), o3] [] σ := fw_on hG [6, 10, 21, 30, 45, 46, 64, 69, 94, 104, 118, 141, 164, 181, 184, 193, 194] 200 h
theorem fs_m_seOne8_69 {G : fw_K} {R : fw_KR} (hG : fw_cls st_m_seOne8 R G) {a2 b0 : Int} {o1 o3 : Option ab_AV} {σ : ab_SG} (h : (0 ≤ fw_c b0 ∧ fw_c b0 ≤ 1) ∧ R (some (0, 0, b0)) σ) : G 69 [some (2, 93, 0), o1, some (0, 0, a2), o3] [(0, 0, b0)] σ := fw_on hG [6, 10, 21, 30, 45, 46, 64, 69, 94, 104, 118, 141, 164, 181, 184, 193, 194] 200 h
theorem fs_m_seOne8_193 {G : fw_K} {R : fw_KR} (hG : fw_cls st_m_seOne8 R G) {a2 b0 : Int} {o1 o3 : Option ab_AV} {σ : ab_SG} (h : G 194 [some (2, 93, 0), o1, some (0, 0, a2), some (0, 0, b0)] [] σ) : G 193 [some (2, 93, 0), o1, some (0, 0, a2), o3] [(0, 0, b0)] σ := fw_on hG [6, 10, 21, 30, 45, 46, 64, 69, 94, 104, 118, 141, 164, 181, 184, 193, 194] 200 h
theorem fs_m_seOne8_181 {G : fw_K} {R : fw_KR} (hG : fw_cls st_m_seOne8 R G) {a2 b0 b1 b2 : Int} {o1 o3 : Option ab_AV} {σ : ab_SG} (h : sp_m_seOf [(2, 93, 0), (0, 0, b2), (0, 0, b1), (0, 0, b0)] σ (fun rv σ2 => G 184 [some (2, 93, 0), o1, some (0, 0, a2), o3] (rv.toList ++ []) σ2)) : G 181 [some (2, 93, 0), o1, some (0, 0, a2), o3] [(0, 0, b0), (0, 0, b1), (0, 0, b2), (2, 93, 0)] σ := fw_on hG [6, 10, 21, 30, 45, 46, 64, 69, 94, 104, 118, 141, 164, 181, 184, 193, 194] 200 h
theorem fs_m_seOne8_164 {G : fw_K} {R : fw_KR} (hG : fw_cls st_m_seOne8 R G) {a2 b0 : Int} {o1 o3 : Option ab_AV} {σ : ab_SG} (h : G 194 [some (2, 93, 0), o1, some (0, 0, a2), some (0, 0, b0)] [] σ) : G 164 [some (2, 93, 0), o1, some (0, 0, a2), o3] [(0, 0, b0)] σ := fw_on hG [6, 10, 21, 30, 45, 46, 64, 69, 94, 104, 118, 141, 164, 181, 184, 193, 194] 200 h
theorem fs_m_seOne8_141 {G : fw_K} {R : fw_KR} (hG : fw_cls st_m_seOne8 R G) {a2 b0 : Int} {o1 o3 : Option ab_AV} {σ : ab_SG} (h : G 194 [some (2, 93, 0), o1, some (0, 0, a2), some (0, 0, b0)] [] σ) : G 141 [some (2, 93, 0), o1, some (0, 0, a2), o3] [(0, 0, b0)] σ := fw_on hG [6, 10, 21, 30, 45, 46, 64, 69, 94, 104, 118, 141, 164, 181, 184, 193, 194] 200 h
theorem fs_m_seOne8_118 {G : fw_K} {R : fw_KR} (hG : fw_cls st_m_seOne8 R G) {a2 b0 : Int} {o1 o3 : Option ab_AV} {σ : ab_SG} (h : G 194 [some (2, 93, 0), o1, some (0, 0, a2), some (0, 0, b0)] [] σ) : G 118 [some (2, 93, 0), o1, some (0, 0, a2), o3] [(0, 0, b0)] σ := fw_on hG [6, 10, 21, 30, 45, 46, 64, 69, 94, 104, 118, 141, 164, 181, 184, 193, 194] 200 h
theorem fs_m_seOne8_104 {G : fw_K} {R : fw_KR} (hG : fw_cls st_m_seOne8 R G) {a2 b0 : Int} {o1 o3 : Option ab_AV} {σ : ab_SG} (h : G 194 [some (2, 93, 0), o1, some (0, 0, a2), some (0, 0, b0)] [] σ) : G 104 [some (2, 93, 0), o1, some (0, 0, a2), o3] [(0, 0, b0)] σ := fw_on hG [6, 10, 21, 30, 45, 46, 64, 69, 94, 104, 118, 141, 164, 181, 184, 193, 194] 200 h
theorem fs_m_seOne8_194 {G : fw_K} {R : fw_KR} (hG : fw_cls st_m_seOne8 R G) {a2 a3 : Int} {o1 : Option ab_AV} {σ : ab_SG} (h : (0 ≤ fw_c a3 ∧ fw_c a3 ≤ 1) ∧ R (some (0, 0, a3)) (ab_ups σ 93 61 (fw_c ((σ 93 61) - 1)))) : G 194 [some (2, 93, 0), o1, some (0, 0, a2), some (0, 0, a3)] [] σ := fw_on hG [6, 10, 21, 30, 45, 46, 64, 69, 94, 104, 118, 141, 164, 181, 184, 193, 194] 200 h
theorem fs_m_seOne8_184 {G : fw_K} {R : fw_KR} (hG : fw_cls st_m_seOne8 R G) {a2 b0 : Int} {o1 o3 : Option ab_AV} {σ : ab_SG} (h : G 194 [some (2, 93, 0), o1, some (0, 0, a2), some (0, 0, b0)] [] σ) : G 184 [some (2, 93, 0), o1, some (0, 0, a2), o3] [(0, 0, b0)] σ := fw_on hG [6, 10, 21, 30, 45, 46, 64, 69, 94, 104, 118, 141, 164, 181, 184, 193, 194] 200 h
abbrev fk_m_seAnd8 : List fw_CR := [(182, 0, true, 11, 1, sp_m_go), (225, 1, true, 11, 2, sp_m_isWord), (498, 4, true, 11, 0, sp_m_saysOne), (501, 0, true, 11, 37, sp_m_seOne 8)]
abbrev st_m_seAnd8 : fw_K → fw_KR → fw_K := fw_st vwCl nn_sh nn_kd fw_kv fw_wc (nn_KI20.map (fun x => x.1)) (nn_KJ20.map (fun x => x.1)) (nn_PF20.map (fun x => x.1)) (nn_PS20.map (fun x => x.1)) fk_m_seAnd8 38 nn_dt343 2 1
theorem fs_m_seAnd8_0 {G : fw_K} {R : fw_KR} (hG : fw_cls st_m_seAnd8 R G) {σ : ab_SG} (h : sp_m_seOne 8 [(2, 93, 0)] σ (fun rv σ2 => G 4 [some (2, 93, 0), none] (rv.toList ++ []) σ2)) : G 0 [some (2, 93, 0), none] [] σ := fw_on hG [4, 14, 20, 27, 31, 47] 200 h
theorem fs_m_seAnd8_4 {G : fw_K} {R : fw_KR} (hG : fw_cls st_m_seAnd8 R G) {b0 : Int} {o1 : Option ab_AV} {σ : ab_SG} (h : (fw_c b0 ≠ 0 → G 14 [some (2, 93, 0), some (0, 0, σ 93 62)] [] σ) ∧ (fw_c b0 = 0 → (0 ≤ fw_c 0 ∧ fw_c 0 ≤ 1) ∧ R (some (0, 0, 0)) σ)) : G 4 [some (2, 93, 0), o1] [(0, 0, b0)] σ := fw_on hG [4, 14, 20, 27, 31, 47] 200 h
theorem fs_m_seAnd8_14 {G : fw_K} {R : fw_KR} (hG : fw_cls st_m_seAnd8 R G) {a1 : Int} {σ : ab_SG} (h : sp_m_isWord [(2, 93, 0), (0, 0, 8)] σ (fun rv σ2 => G 20 [some (2, 93, 0), some (0, 0, a1)] (rv.toList ++ []) σ2)) : G 14 [some (2, 93, 0), some (0, 0, a1)] [] σ := fw_on hG [4, 14, 20, 27, 31, 47] 200 h
theorem fs_m_seAnd8_20 {G : fw_K} {R : fw_KR} (hG : fw_cls st_m_seAnd8 R G) {a1 b0 : Int} {σ : ab_SG} (h : (fw_c b0 = 0 → (0 ≤ fw_c 1 ∧ fw_c 1 ≤ 1) ∧ R (some (0, 0, 1)) (ab_ups σ 93 62 (fw_c a1))) ∧ (fw_c b0 ≠ 0 → sp_m_go [(2, 93, 0)] σ (fun rv σ2 => G 27 [some (2, 93, 0), some (0, 0, a1)] (rv.toList ++ []) σ2))) : G 20 [some (2, 93, 0), some (0, 0, a1)] [(0, 0, b0)] σ := fw_on hG [4, 14, 20, 27, 31, 47] 200 h
theorem fs_m_seAnd8_27 {G : fw_K} {R : fw_KR} (hG : fw_cls st_m_seAnd8 R G) {a1 : Int} {σ : ab_SG} (h : sp_m_seOne 8 [(2, 93, 0)] σ (fun rv σ2 => G 31 [some (2, 93, 0), some (0, 0, a1)] (rv.toList ++ []) σ2)) : G 27 [some (2, 93, 0), some (0, 0, a1)] [] σ := fw_on hG [4, 14, 20, 27, 31, 47] 200 h
theorem fs_m_seAnd8_31 {G : fw_K} {R : fw_KR} (hG : fw_cls st_m_seAnd8 R G) {a1 b0 : Int} {σ : ab_SG} (h : (fw_c b0 ≠ 0 → sp_m_saysOne [(2, 93, 0), (0, 0, 2), (0, 0, a1), (0, 0, σ 93 62), (0, 0, 0)] σ (fun rv σ2 => G 47 [some (2, 93, 0), some (0, 0, a1)] (rv.toList ++ []) σ2)) ∧ (fw_c b0 = 0 → (0 ≤ fw_c 0 ∧ fw_c 0 ≤ 1) ∧ R (some (0, 0, 0)) σ)) : G 31 [some (2, 93, 0), some (0, 0, a1)] [(0, 0, b0)] σ := fw_on hG [4, 14, 20, 27, 31, 47] 200 h
theorem fs_m_seAnd8_47 {G : fw_K} {R : fw_KR} (hG : fw_cls st_m_seAnd8 R G) {b0 : Int} {o1 : Option ab_AV} {σ : ab_SG} (h : G 14 [some (2, 93, 0), some (0, 0, b0)] [] σ) : G 47 [some (2, 93, 0), o1] [(0, 0, b0)] σ := fw_on hG [4, 14, 20, 27, 31, 47] 200 h
abbrev fk_m_seOr8 : List fw_CR := [(182, 0, true, 11, 1, sp_m_go), (225, 1, true, 11, 2, sp_m_isWord), (492, 0, true, 11, 38, sp_m_seAnd 8), (498, 4, true, 11, 0, sp_m_saysOne)]
abbrev st_m_seOr8 : fw_K → fw_KR → fw_K := fw_st vwCl nn_sh nn_kd fw_kv fw_wc (nn_KI20.map (fun x => x.1)) (nn_KJ20.map (fun x => x.1)) (nn_PF20.map (fun x => x.1)) (nn_PS20.map (fun x => x.1)) fk_m_seOr8 39 nn_dt342 2 1
theorem fs_m_seOr8_0 {G : fw_K} {R : fw_KR} (hG : fw_cls st_m_seOr8 R G) {σ : ab_SG} (h : sp_m_seAnd 8 [(2, 93, 0)] σ (fun rv σ2 => G 4 [some (2, 93, 0), none] (rv.toList ++ []) σ2)) : G 0 [some (2, 93, 0), none] [] σ := fw_on hG [4, 14, 20, 27, 31, 47] 200 h
theorem fs_m_seOr8_4 {G : fw_K} {R : fw_KR} (hG : fw_cls st_m_seOr8 R G) {b0 : Int} {o1 : Option ab_AV} {σ : ab_SG} (h : (fw_c b0 ≠ 0 → G 14 [some (2, 93, 0), some (0, 0, σ 93 62)] [] σ) ∧ (fw_c b0 = 0 → (0 ≤ fw_c 0 ∧ fw_c 0 ≤ 1) ∧ R (some (0, 0, 0)) σ)) : G 4 [some (2, 93, 0), o1] [(0, 0, b0)] σ := fw_on hG [4, 14, 20, 27, 31, 47] 200 h
theorem fs_m_seOr8_14 {G : fw_K} {R : fw_KR} (hG : fw_cls st_m_seOr8 R G) {a1 : Int} {σ : ab_SG} (h : sp_m_isWord [(2, 93, 0), (0, 0, 7)] σ (fun rv σ2 => G 20 [some (2, 93, 0), some (0, 0, a1)] (rv.toList ++ []) σ2)) : G 14 [some (2, 93, 0), some (0, 0, a1)] [] σ := fw_on hG [4, 14, 20, 27, 31, 47] 200 h
theorem fs_m_seOr8_20 {G : fw_K} {R : fw_KR} (hG : fw_cls st_m_seOr8 R G) {a1 b0 : Int} {σ : ab_SG} (h : (fw_c b0 = 0 → (0 ≤ fw_c 1 ∧ fw_c 1 ≤ 1) ∧ R (some (0, 0, 1)) (ab_ups σ 93 62 (fw_c a1))) ∧ (fw_c b0 ≠ 0 → sp_m_go [(2, 93, 0)] σ (fun rv σ2 => G 27 [some (2, 93, 0), some (0, 0, a1)] (rv.toList ++ []) σ2))) : G 20 [some (2, 93, 0), some (0, 0, a1)] [(0, 0, b0)] σ := fw_on hG [4, 14, 20, 27, 31, 47] 200 h
theorem fs_m_seOr8_27 {G : fw_K} {R : fw_KR} (hG : fw_cls st_m_seOr8 R G) {a1 : Int} {σ : ab_SG} (h : sp_m_seAnd 8 [(2, 93, 0)] σ (fun rv σ2 => G 31 [some (2, 93, 0), some (0, 0, a1)] (rv.toList ++ []) σ2)) : G 27 [some (2, 93, 0), some (0, 0, a1)] [] σ := fw_on hG [4, 14, 20, 27, 31, 47] 200 h
theorem fs_m_seOr8_31 {G : fw_K} {R : fw_KR} (hG : fw_cls st_m_seOr8 R G) {a1 b0 : Int} {σ : ab_SG} (h : (fw_c b0 ≠ 0 → sp_m_saysOne [(2, 93, 0), (0, 0, 3), (0, 0, a1), (0, 0, σ 93 62), (0, 0, 0)] σ (fun rv σ2 => G 47 [some (2, 93, 0), some (0, 0, a1)] (rv.toList ++ []) σ2)) ∧ (fw_c b0 = 0 → (0 ≤ fw_c 0 ∧ fw_c 0 ≤ 1) ∧ R (some (0, 0, 0)) σ)) : G 31 [some (2, 93, 0), some (0, 0, a1)] [(0, 0, b0)] σ := fw_on hG [4, 14, 20, 27, 31, 47] 200 h
theorem fs_m_seOr8_47 {G : fw_K} {R : fw_KR} (hG : fw_cls st_m_seOr8 R G) {b0 : Int} {o1 : Option ab_AV} {σ : ab_SG} (h : G 14 [some (2, 93, 0), some (0, 0, b0)] [] σ) : G 47 [some (2, 93, 0), o1] [(0, 0, b0)] σ := fw_on hG [4, 14, 20, 27, 31, 47] 200 h
section
variable {l : Launch} {cy : Nat → ClassId} {ad wr cr : Nat → Nat} {D : va_G}
theorem fm_m_seOne8 (hinj : nn_inj ad) : fw_H l cy ad wr cr D 344 37 (sp_m_seOne 8) := fw_mk hinj (⟨"NameNotesModel", "readOne", "()Z"⟩, prog_14_method_142_code, 4, (Option.some Jvm.ClassFile.FieldType.boolean), 0, true, 1) rfl rfl nn_KI20_ok nn_KJ20_ok nn_PF20_ok nn_PS20_ok (by decide +kernel) rfl rfl (List.forall_mem_cons.mpr ⟨fw_row nn_PM20_ok (x := 168) (k := 0) (mn := 221) (np := 1) (ob := true) (ci := 11) (⟨"NameNotesModel", "bad", "(I)Z"⟩, prog_14_method_23_code, 2, (Option.some Jvm.ClassFile.FieldType.boolean), 1, true, 1) rfl (by decide +kernel) rfl rfl (by decide) (fun _ => ⟨_, _, rfl⟩) (fm_m_bad hinj), (List.forall_mem_cons.mpr ⟨fw_row nn_PM20_ok (x := 182) (k := 0) (mn := 212) (np := 0) (ob := true) (ci := 11) (⟨"NameNotesModel", "go", "()V"⟩, prog_14_method_17_code, 5, (Option.none : Option Jvm.ClassFile.FieldType), 0, true, 4) rfl (by decide +kernel) rfl rfl (by decide) (fun _ => ⟨_, _, rfl⟩) (fm_m_go hinj), (List.forall_mem_cons.mpr ⟨fw_row nn_PM20_ok (x := 185) (k := 0) (mn := 236) (np := 1) (ob := true) (ci := 11) (⟨"NameNotesModel", "isSign", "(I)Z"⟩, prog_14_method_21_code, 2, (Option.some Jvm.ClassFile.FieldType.boolean), 1, true, 1) rfl (by decide +kernel) rfl rfl (by decide) (fun _ => ⟨_, _, rfl⟩) (fm_m_isSign hinj), (List.forall_mem_cons.mpr ⟨fw_row nn_PM20_ok (x := 225) (k := 0) (mn := 217) (np := 1) (ob := true) (ci := 11) (⟨"NameNotesModel", "isWord", "(I)Z"⟩, prog_14_method_20_code, 2, (Option.some Jvm.ClassFile.FieldType.boolean), 1, true, 1) rfl (by decide +kernel) rfl rfl (by decide) (fun _ => ⟨_, _, rfl⟩) (fm_m_isWord hinj), (List.forall_mem_cons.mpr ⟨fw_row nn_PM20_ok (x := 261) (k := 0) (mn := 240) (np := 0) (ob := true) (ci := 11) (⟨"NameNotesModel", "tunes", "()I"⟩, prog_14_method_41_code, 1, (Option.some Jvm.ClassFile.FieldType.int), 0, true, 0) rfl (by decide +kernel) rfl rfl (by decide) (fun _ => ⟨_, _, rfl⟩) (fm_m_tunes hinj), (List.forall_mem_cons.mpr ⟨fw_row nn_PM20_ok (x := 510) (k := 0) (mn := 345) (np := 0) (ob := true) (ci := 11) (⟨"NameNotesModel", "readBracket", "()Z"⟩, prog_14_method_144_code, 1, (Option.some Jvm.ClassFile.FieldType.boolean), 0, true, 1) rfl (by decide +kernel) rfl rfl (by decide) (fun _ => ⟨_, _, rfl⟩) (fm_m_seBr7 hinj), (List.forall_mem_cons.mpr ⟨fw_row nn_PM20_ok (x := 513) (k := 0) (mn := 346) (np := 0) (ob := true) (ci := 11) (⟨"NameNotesModel", "readNot", "()Z"⟩, prog_14_method_143_code, 1, (Option.some Jvm.ClassFile.FieldType.boolean), 0, true, 1) rfl (by decide +kernel) rfl rfl (by decide) (fun _ => ⟨_, _, rfl⟩) (fm_m_seNot7 hinj), (List.forall_mem_cons.mpr ⟨fw_row nn_PM20_ok (x := 516) (k := 0) (mn := 348) (np := 3) (ob := true) (ci := 11) (⟨"NameNotesModel", "readOf", "(III)Z"⟩, prog_14_method_145_code, 5, (Option.some Jvm.ClassFile.FieldType.boolean), 3, true, 1) rfl (by decide +kernel) rfl rfl (by decide) (fun _ => ⟨_, _, rfl⟩) (fm_m_seOf hinj), (List.forall_mem_cons.mpr ⟨fw_row nn_PM20_ok (x := 519) (k := 0) (mn := 349) (np := 1) (ob := true) (ci := 11) (⟨"NameNotesModel", "readCompare", "(I)Z"⟩, prog_14_method_146_code, 3, (Option.some Jvm.ClassFile.FieldType.boolean), 1, true, 1) rfl (by decide +kernel) rfl rfl (by decide) (fun _ => ⟨_, _, rfl⟩) (fm_m_seCmp hinj), (fun _ h => absurd h List.not_mem_nil)⟩)⟩)⟩)⟩)⟩)⟩)⟩)⟩)⟩) (fun as σ K h => by
  obtain ⟨A, e, p, o, z, rfl, ⟨hN, hm, hs, ho⟩, h0, h1⟩ := h
  have c16 : fw_c 16 = 16 := fw_s (by decide) (by decide)
  have c20 : fw_c 20 = 20 := fw_s (by decide) (by decide)
  have c8 : fw_c 8 = 8 := fw_s (by decide) (by decide)
  have c60 : fw_c (σ 93 60) = (o : Int) := by rw [hs.1]; exact fw_s (by omega) (by omega)
  have c61 : fw_c (σ 93 61) = ((8 - 8 : Nat) : Int) := by rw [hs.2.1]; exact fw_s (by decide) (by decide)
  have u0 : ∀ {X : Prop}, fw_c 0 ≠ 0 → X := fun z => absurd fw_c0 z
  have u1 : ∀ {X : Prop}, fw_c 1 = 0 → X := fun z => absurd (fw_c1.symm.trans z) (by decide)
  have n40 : (tk e p).1 = 40 → ¬ (9 ≤ tw e p ∧ tw e p ≤ 16) := fun z y => by
    have := tw_k (e := e) (p := p) (by omega)
    omega
  refine ⟨rfl, fun G hG => ?_⟩
  -- too many, too deep
  have g64 : sn_st e p → sn_one A e 8 o p = (4, ev_st e p, o, p) → ∀ (o1 o3 : Option ab_AV) (w : Int), G 64 [some (2, 93, 0), o1, some (0, 0, w), o3] [] σ := fun y en o1 o3 w => by
    rw [en] at h0
    refine fs_m_seOne8_64 hG (mp_bad hm.1 (by decide) (fun σ' hM h10 h11 => fs_m_seOne8_69 hG ⟨fw_01, h0 (show (4 : Int) ≠ 0 by decide) σ' (ev_up hM (by decide)) ?_ h11⟩))
    have k : ¬ σ 93 7 = 1 := fun q => by
      have g := (mg_kind hm.1).2.2.1.mp q
      rcases y with y | y
      · omega
      · have := tw_k (e := e) (p := p) (by omega)
        omega
    rw [h10, if_neg k]
  have g46 : ∀ (b w : Int) (o3 : Option ab_AV), sn_st e p → ((b = 1 ∧ (tk e p).1 = 40) ∨ (b = 0 ∧ (tk e p).1 ≠ 40 ∧ w = tw e p)) → (0 ≤ w ∧ w ≤ 17) → G 46 [some (2, 93, 0), some (0, 0, b), some (0, 0, w), o3] [] σ := by
    intro b w o3 y hb hw
    refine fs_m_seOne8_46 hG ?_
    rw [c60, c61, c20, c8]
    refine ⟨fun q => g64 y ?_ _ o3 w, fun q => ⟨fun _ => ?_, fun q2 => absurd q2 (by decide)⟩⟩
    · rw [show sn_one A e 8 o p = _ from sn_one_s A e 7 o p, if_neg (fun u => u y), if_pos (by omega)]
    have en : sn_one A e 8 o p = _ := sn_one_s A e 7 o p
    rw [if_neg (fun u => u y), if_neg (by omega)] at en
    have ln : sl_one A e 8 o p = _ := sl_one_s A e 7 o p
    have co : fw_c (σ 93 60 + 1) = ((o + 1 : Nat) : Int) := by rw [hs.1]; exact fw_s (x := (o : Int) + 1) (by omega) (by omega)
    have cd : fw_c (σ 93 61 + 1) = ((8 - 7 : Nat) : Int) := by rw [hs.2.1]; exact fw_s (x := ((8 - 8 : Nat) : Int) + 1) (by decide) (by decide)
    rw [co, cd]
    have hm1 : mt_is (ab_ups (ab_ups σ 93 60 ((o + 1 : Nat) : Int)) 93 61 ((8 - 7 : Nat) : Int)) e p := mt_ups (mt_ups hm (Or.inr ⟨rfl, by decide⟩)) (Or.inr ⟨rfl, by decide⟩)
    have s1 : sm_is (ab_ups (ab_ups σ 93 60 ((o + 1 : Nat) : Int)) 93 61 ((8 - 7 : Nat) : Int)) (o + 1) (8 - 7) (z + 2) := ⟨(ab_ups_ne (by decide)).trans ab_ups_eq, ab_ups_eq, by rw [ab_ups_ne (by decide), ab_ups_ne (by decide)]; have := hs.2.2; omega⟩
    have M1 : ab_okM sm_M σ (ab_ups (ab_ups σ 93 60 ((o + 1 : Nat) : Int)) 93 61 ((8 - 7 : Nat) : Int)) := fw_okM_ups (fw_okM_ups (fw_okM_refl _ _) (by decide)) (by decide)
    have Q1 : gq σ (ab_ups (ab_ups σ 93 60 ((o + 1 : Nat) : Int)) 93 61 ((8 - 7 : Nat) : Int)) := gq_tr (gq_k (M := [(93, 60)]) okM_one (by decide)) (gq_k (M := [(93, 61)]) okM_one (by decide))
    generalize ab_ups (ab_ups σ 93 60 ((o + 1 : Nat) : Int)) 93 61 ((8 - 7 : Nat) : Int) = σ1 at hm1 s1 M1 Q1 ⊢
    refine mt_go hm1 (fun σ2 N2 hm2 => fs_m_seOne8_94 hG ?_)
    have q2 : gq σ σ2 := gq_tr Q1 (gq_k N2 (by decide))
    have M2 : ab_okM sm_M σ σ2 := ev_tr M1 (ev_up N2 (by decide))
    have s2 : sm_is σ2 (o + 1) (8 - 7) (z + 2) := sm_k s1 N2 (by decide)
    have N2' : NM σ2 A := sm_NM M2 hN
    have no : ∀ r : sn_T, sn_one A e 8 o p = r → r.1 ≠ 0 → ∀ σ' : ab_SG, ab_okM sm_M σ2 σ' → σ' 93 10 = r.1 → σ' 93 11 = r.2.1 → ∀ o1 : Option ab_AV, G 194 [some (2, 93, 0), o1, some (0, 0, w), some (0, 0, 0)] [] σ' := fun r er q σ' M a b o1 => by
      rw [er] at h0
      exact fs_m_seOne8_194 hG ⟨fw_01, h0 q _ (fw_okM_ups (ev_tr M2 M) (by decide)) ((ab_ups_ne (by decide)).trans a) ((ab_ups_ne (by decide)).trans b)⟩
    have ok : ∀ (r : sn_T) (L : sl_T), sn_one A e 8 o p = r → sl_one A e 8 o p = L → r.1 = 0 → ∀ (σ' : ab_SG) (zz h9 : Nat), z + 1 ≤ zz → h9 ≤ r.2.2.1 - o → ab_okM sm_M σ2 σ' → mt_is σ' e r.2.2.2 → sm_is σ' r.2.2.1 (8 - 7) zz → sr σ2 σ' h9 L → ∀ o1 : Option ab_AV, G 194 [some (2, 93, 0), o1, some (0, 0, w), some (0, 0, 1)] [] σ' := fun r L er el q σ' zz h9 hz hh M hm' s' R o1 => by
      rw [er, el] at h1
      have cv : fw_c (σ' 93 61 - 1) = ((8 - 8 : Nat) : Int) := by rw [s'.2.1]; exact fw_s (x := ((8 - 7 : Nat) : Int) - 1) (by decide) (by decide)
      refine fs_m_seOne8_194 hG ⟨fw_11, ?_⟩
      rw [cv]
      exact h1 q _ (fw_okM_ups (ev_tr M2 M) (by decide)) (mt_ups hm' (Or.inr ⟨rfl, by decide⟩)) ⟨(ab_ups_ne (by decide)).trans s'.1, ab_ups_eq, by rw [ab_ups_ne (by decide)]; have := s'.2.2; omega⟩ (sr_k (M := [(93, 61)]) (sr_l q2 hh R) okM_one (by decide))
    have cw : fw_c w = w := fw_s (by omega) (by omega)
    have c9 : fw_c 9 = 9 := fw_s (by decide) (by decide)
    have c10 : fw_c 10 = 10 := fw_s (by decide) (by decide)
    have c11 : fw_c 11 = 11 := fw_s (by decide) (by decide)
    have c12 : fw_c 12 = 12 := fw_s (by decide) (by decide)
    have c2 : fw_c 2 = 2 := fw_s (by decide) (by decide)
    have t1 : (fw_c 1).toNat = 1 := by rw [fw_c1]; rfl
    have t2 : (fw_c 2).toNat = 2 := by rw [c2]; rfl
    have nn := hN.1
    rw [cw, c9, c10, c11, c12, t1, t2, c2, fw_c1]
    refine ⟨fun q5 => ?_, fun q5 => ?_⟩
    · obtain ⟨n4, ew⟩ : (tk e p).1 ≠ 40 ∧ w = tw e p := by
        rcases hb with ⟨b1, -⟩ | ⟨-, k⟩
        · rw [b1] at q5
          exact u1 q5
        · exact k
      rw [if_neg n4] at en ln
      refine ⟨fun w9 => ⟨fun w10 => ⟨fun w11 => ⟨fun w12 => ?_, fun w12 => ⟨rfl, fs_m_seOne8_181 hG ?_⟩⟩, fun w11 => ⟨by decide, ?_⟩⟩, fun w10 => ⟨by decide, ?_⟩⟩, fun w9 => ?_⟩
      · rw [if_neg (by omega), if_neg (by omega), if_neg (by omega), if_neg (by omega)] at en ln
        have wk : 13 ≤ tw e p ∧ tw e p ≤ 16 := by
          have y2 := y.resolve_left n4
          omega
        rw [sk_13 wk, ← ew] at ln
        rw [← ew] at wk
        exact ⟨e, tn e p, o + 1, 8 - 7, z + 1, _, rfl, hm2, ⟨s2, by omega⟩, wk, fun q σ' M a b => fs_m_seOne8_193 hG (no _ en q σ' M a b _), fun q σ' M a b c => fs_m_seOne8_193 hG (ok _ _ en ln q σ' (z + 1) 1 (Nat.le_refl _) (by rw [sn_ms_0 q]; show 1 ≤ o + 1 - o; omega) M a b c _)⟩
      · rw [if_neg (by omega), if_neg (by omega), if_neg (by omega), if_pos (by omega), show (5 : Int) = w - 7 by omega] at ln
        rw [if_neg (by omega), if_neg (by omega), if_neg (by omega), if_pos (by omega)] at en
        rw [(NM_n N2').1]
        exact ⟨A, e, tn e p, o + 1, 8 - 7, z + 1, 0, 57, _, _, rfl, hm2, ⟨s2, by omega⟩, rm_11 N2', ⟨nn.1.1, by omega, by omega⟩, ⟨by omega, by omega⟩, fun q σ' M a b => fs_m_seOne8_184 hG (no _ en q σ' M a b _), fun q σ' M a b c => fs_m_seOne8_184 hG (ok _ _ en ln q σ' (z + 1) 1 (Nat.le_refl _) (by rw [(sn_nm_0 q).2]; show 1 ≤ o + 1 - o; omega) M a b c _)⟩
      · rw [if_neg (by omega), if_neg (by omega), if_pos (by omega), show (4 : Int) = w - 7 by omega] at ln
        rw [if_neg (by omega), if_neg (by omega), if_pos (by omega)] at en
        rw [(NM_n N2').2.2]
        exact ⟨A, e, tn e p, o + 1, 8 - 7, z + 1, 15, 59, _, _, rfl, hm2, ⟨s2, by omega⟩, rm_13 N2', ⟨nn.2.2.1.1, by omega, by omega⟩, ⟨by omega, by omega⟩, fun q σ' M a b => fs_m_seOne8_164 hG (no _ en q σ' M a b _), fun q σ' M a b c => fs_m_seOne8_164 hG (ok _ _ en ln q σ' (z + 1) 1 (Nat.le_refl _) (by rw [(sn_nm_0 q).2]; show 1 ≤ o + 1 - o; omega) M a b c _)⟩
      · rw [if_neg (by omega), if_pos (by omega), show (3 : Int) = w - 7 by omega] at ln
        rw [if_neg (by omega), if_pos (by omega)] at en
        rw [(NM_n N2').2.1]
        exact ⟨A, e, tn e p, o + 1, 8 - 7, z + 1, 9, 58, _, _, rfl, hm2, ⟨s2, by omega⟩, rm_12 N2', ⟨nn.2.1.1, by omega, by omega⟩, ⟨by omega, by omega⟩, fun q σ' M a b => fs_m_seOne8_141 hG (no _ en q σ' M a b _), fun q σ' M a b c => fs_m_seOne8_141 hG (ok _ _ en ln q σ' (z + 1) 1 (Nat.le_refl _) (by rw [(sn_nm_0 q).2]; show 1 ≤ o + 1 - o; omega) M a b c _)⟩
      · rw [if_pos (by omega)] at en ln
        exact ⟨A, e, tn e p, o + 1, z + 2, rfl, ⟨N2', hm2, s2, by omega⟩, fun q σ' M a b => fs_m_seOne8_118 hG (no _ en q σ' M a b _), fun q σ' M a b c => fs_m_seOne8_118 hG (ok _ _ en ln q σ' (z + 2) _ (by omega) (by have g := (sn_one_gr A e 7 (o + 1) (tn e p) (by omega) q).1; omega) M a b c _)⟩
    · have n4 : (tk e p).1 = 40 := by
        rcases hb with ⟨-, k⟩ | ⟨b0, -⟩
        · exact k
        · rw [b0] at q5
          exact u0 q5
      rw [if_pos n4] at en ln
      exact ⟨A, e, tn e p, o + 1, z + 2, rfl, ⟨N2', hm2, s2, by omega⟩, fun q σ' M a b => fs_m_seOne8_104 hG (no _ en q σ' M a b _), fun q σ' M a b c => fs_m_seOne8_104 hG (ok _ _ en ln q σ' (z + 3) _ (by omega) (by omega) M a b c _)⟩
  have g30 : ∀ (b w : Int) (o3 : Option ab_AV), ((b = 1 ∧ (tk e p).1 = 40) ∨ (b = 0 ∧ (tk e p).1 ≠ 40)) → ((w = tw e p ∧ 9 ≤ w ∧ w ≤ 16) ∨ (w = 17 ∧ ¬ (9 ≤ tw e p ∧ tw e p ≤ 16))) → G 30 [some (2, 93, 0), some (0, 0, b), some (0, 0, w), o3] [] σ := by
    intro b w o3 hb hw
    have cw : fw_c w = w := fw_s (by omega) (by omega)
    refine fs_m_seOne8_30 hG ?_
    rw [cw, c16]
    refine ⟨fun q => ?_, fun q => ⟨fun q2 => ?_, fun q2 => ?_⟩⟩
    · rcases hb with ⟨b1, k⟩ | ⟨b0, -⟩
      · exact g46 b w o3 (Or.inl k) (Or.inl ⟨b1, k⟩) ⟨by omega, by omega⟩
      · rw [b0] at q
        exact u0 q
    · rcases hb with ⟨b1, -⟩ | ⟨b0, k⟩
      · rw [b1] at q
        exact u1 q
      · exact g46 b w o3 (Or.inr ⟨by omega, by omega⟩) (Or.inr ⟨b0, k, by omega⟩) ⟨by omega, by omega⟩
    · rcases hb with ⟨b1, -⟩ | ⟨b0, k⟩
      · rw [b1] at q
        exact u1 q
      · have ns : ¬ sn_st e p := fun y => by
          rcases y with y | y
          · exact k y
          · omega
        have en : sn_one A e 8 o p = (1, ev_st e p, o, p) := (sn_one_s A e 7 o p).trans (if_pos ns)
        rw [en] at h0
        refine mp_bad hm.1 (by decide) (fun σ' hM h10 h11 => fs_m_seOne8_45 hG ⟨fw_01, h0 (show (1 : Int) ≠ 0 by decide) σ' (ev_up hM (by decide)) ?_ h11⟩)
        rw [h10]
        split <;> rfl
  have lw : ∀ (f w : Nat) (b : Int) (o3 : Option ab_AV), w + f = 17 → 9 ≤ w → (∀ v : Nat, 9 ≤ v → v < w → tw e p ≠ (v : Int)) → ((b = 1 ∧ (tk e p).1 = 40) ∨ (b = 0 ∧ (tk e p).1 ≠ 40)) → G 10 [some (2, 93, 0), some (0, 0, b), some (0, 0, (w : Int)), o3] [] σ := by
    intro f
    induction f with
    | zero =>
      intro w b o3 hf h9 hv hb
      have ew : w = 17 := by omega
      subst ew
      refine fs_m_seOne8_10 hG ⟨fun _ => g30 b _ o3 hb (Or.inr ⟨rfl, fun y => ?_⟩), fun q => absurd q (by rw [c16]; decide)⟩
      have := hv (tw e p).toNat (by omega) (by omega)
      omega
    | succ f ih =>
      intro w b o3 hf h9 hv hb
      have cw : fw_c (w : Int) = (w : Int) := fw_s (by omega) (by omega)
      refine fs_m_seOne8_10 hG ⟨fun q => absurd q (by rw [c16, cw]; omega), fun _ => ⟨w, e, p, rfl, by omega, hm.1, ?_⟩⟩
      by_cases c : tw e p = (w : Int)
      · rw [fw_bo_t c]
        exact fs_m_seOne8_21 hG ⟨fun _ => g30 b _ o3 hb (Or.inl ⟨c.symm, by omega, by omega⟩), u1⟩
      · rw [fw_bo_f c]
        refine fs_m_seOne8_21 hG ⟨u0, fun _ => ?_⟩
        have g := ih (w + 1) b o3 (by omega) (by omega) (fun v h1 h2 => by
          by_cases y : v = w
          · rw [y]
            exact c
          · exact hv v h1 (by omega)) hb
        rw [show ((w + 1 : Nat) : Int) = (w : Int) + 1 from rfl] at g
        exact g
  refine fs_m_seOne8_0 hG ⟨40, e, p, rfl, Or.inr (Or.inr (Or.inl rfl)), hm.1, ?_⟩
  by_cases c : (tk e p).1 = 40
  · rw [fw_bo_t c]
    exact fs_m_seOne8_6 hG (lw 8 9 1 _ rfl (by decide) (fun v h1 h2 => by omega) (Or.inl ⟨rfl, c⟩))
  · rw [fw_bo_f c]
    exact fs_m_seOne8_6 hG (lw 8 9 0 _ rfl (by decide) (fun v h1 h2 => by omega) (Or.inr ⟨rfl, c⟩)))
theorem fm_m_seAnd8 (hinj : nn_inj ad) : fw_H l cy ad wr cr D 343 38 (sp_m_seAnd 8) := fw_mk hinj (⟨"NameNotesModel", "readAnd", "()Z"⟩, prog_14_method_141_code, 2, (Option.some Jvm.ClassFile.FieldType.boolean), 0, true, 1) rfl rfl nn_KI20_ok nn_KJ20_ok nn_PF20_ok nn_PS20_ok (by decide +kernel) rfl rfl (List.forall_mem_cons.mpr ⟨fw_row nn_PM20_ok (x := 182) (k := 0) (mn := 212) (np := 0) (ob := true) (ci := 11) (⟨"NameNotesModel", "go", "()V"⟩, prog_14_method_17_code, 5, (Option.none : Option Jvm.ClassFile.FieldType), 0, true, 4) rfl (by decide +kernel) rfl rfl (by decide) (fun _ => ⟨_, _, rfl⟩) (fm_m_go hinj), (List.forall_mem_cons.mpr ⟨fw_row nn_PM20_ok (x := 225) (k := 0) (mn := 217) (np := 1) (ob := true) (ci := 11) (⟨"NameNotesModel", "isWord", "(I)Z"⟩, prog_14_method_20_code, 2, (Option.some Jvm.ClassFile.FieldType.boolean), 1, true, 1) rfl (by decide +kernel) rfl rfl (by decide) (fun _ => ⟨_, _, rfl⟩) (fm_m_isWord hinj), (List.forall_mem_cons.mpr ⟨fw_row nn_PM20_ok (x := 498) (k := 0) (mn := 347) (np := 4) (ob := true) (ci := 11) (⟨"NameNotesModel", "saysOne", "(IIII)I"⟩, prog_14_method_139_code, 6, (Option.some Jvm.ClassFile.FieldType.int), 4, true, 0) rfl (by decide +kernel) rfl rfl (by decide) (fun _ => ⟨_, _, rfl⟩) (fm_m_saysOne hinj), (List.forall_mem_cons.mpr ⟨fw_row nn_PM20_ok (x := 501) (k := 0) (mn := 344) (np := 0) (ob := true) (ci := 11) (⟨"NameNotesModel", "readOne", "()Z"⟩, prog_14_method_142_code, 4, (Option.some Jvm.ClassFile.FieldType.boolean), 0, true, 1) rfl (by decide +kernel) rfl rfl (by decide) (fun _ => ⟨_, _, rfl⟩) (fm_m_seOne8 hinj), (fun _ h => absurd h List.not_mem_nil)⟩)⟩)⟩)⟩) (fun as σ K h => by
  obtain ⟨A, e, p, o, z, g, rfl, ⟨hN, hm, hs, ho⟩, hg, h⟩ := h
  obtain ⟨h0, h1⟩ := h _ rfl
  have u0 : ∀ {X : Prop}, fw_c 0 ≠ 0 → X := fun z => absurd fw_c0 z
  have u1 : ∀ {X : Prop}, fw_c 1 = 0 → X := fun z => absurd (fw_c1.symm.trans z) (by decide)
  have og := sn_one_gr A e 8
  refine ⟨rfl, fun G hG => fs_m_seAnd8_0 hG ⟨A, e, p, o, z, rfl, ⟨hN, hm, hs, ho⟩, fun q σ' M a b => fs_m_seAnd8_4 hG ⟨u0, fun _ => ⟨fw_01, ?_⟩⟩, fun q σ1 M1 hm1 s1 R1 => fs_m_seAnd8_4 hG ⟨fun _ => ?_, u1⟩⟩⟩
  · rw [if_pos q] at h0
    exact h0 q σ' M a b
  · rw [if_neg (fun u => u q)] at h0 h1
    have gr := og o p ho q
    have loop : ∀ (f g1 o1 p1 : Nat) (τ : ab_SG) (a1 : Int) (LA : sl_T), 20 < f + o1 → 21 ≤ g1 + o1 → o + 1 ≤ o1 → o1 ≤ 20 → ab_okM sm_M σ τ → mt_is τ e p1 → sm_is τ o1 (8 - 8) (z + 1) → gq σ τ → rp (τ 121) (τ 93 59) (o1 - o) a1 LA → (∀ w : Bool, sl_one A e 8 o p ++ sl_lp (sn_one A e 8) (sl_one A e 8) e g w (sn_one A e 8 o p).2.2.1 (sn_one A e 8 o p).2.2.2 = LA ++ sl_lp (sn_one A e 8) (sl_one A e 8) e g1 w o1 p1) → sn_lp (sn_one A e 8) e g (sn_one A e 8 o p).2.2.1 (sn_one A e 8 o p).2.2.2 = sn_lp (sn_one A e 8) e g1 o1 p1 → G 14 [some (2, 93, 0), some (0, 0, a1)] [] τ := by
      intro f
      induction f with
      | zero =>
        intro g1 o1 p1 τ a1 LA hf _ _ h20 _ _ _ _ _ _ _
        omega
      | succ f ih =>
        intro g1 o1 p1 τ a1 LA hf hg1 ho1 h20 M hm' s' Q R hw hr
        refine fs_m_seAnd8_14 hG ⟨8, e, p1, rfl, by decide, hm'.1, ?_⟩
        show G 20 _ [(0, 0, fw_bo (tw e p1 = ((8 : Nat) : Int)))] τ
        by_cases c : tw e p1 = ((8 : Nat) : Int)
        · rw [fw_bo_t c]
          replace c : tw e p1 = 8 := c
          obtain ⟨g2, rfl⟩ : ∃ g2, g1 = g2 + 1 := ⟨g1 - 1, by omega⟩
          rw [sn_lps, if_pos (Or.inl c)] at hr
          refine fs_m_seAnd8_20 hG ⟨u1, fun _ => mt_go hm' (fun τ2 N2 hm2 => fs_m_seAnd8_27 hG ?_)⟩
          have M2 : ab_okM sm_M σ τ2 := ev_tr M (ev_up N2 (by decide))
          refine ⟨A, e, tn e p1, o1, z + 1, rfl, ⟨sm_NM M2 hN, hm2, sm_k s' N2 (by decide), h20⟩, fun q2 σ' M' a b => fs_m_seAnd8_31 hG ⟨u0, fun _ => ⟨fw_01, ?_⟩⟩, fun q2 τ3 M3 hm3 s3 R3 => fs_m_seAnd8_31 hG ⟨fun _ => ?_, u1⟩⟩
          · rw [if_pos q2] at hr
            rw [hr] at h0
            exact h0 q2 σ' (ev_tr M2 M') a b
          · rw [if_neg (fun u => u q2)] at hr
            have gr2 := og o1 (tn e p1) h20 q2
            have b59 := s3.2.2
            have Q3 : gq τ τ3 := gq_tr (gq_k N2 (by decide)) R3.1
            exact ⟨_, _, _, _, rfl, ⟨s3.2.2.1, by have := s3.2.2.2; omega⟩, fun v τ4 M4 e59 ev hd => fs_m_seAnd8_47 hG (ih g2 _ _ τ4 v (LA ++ (sl_one A e 8 o1 (tn e p1) ++ [(1, 0)])) (by omega) (by omega) (by omega) gr2.2 (ev_tr (ev_tr M2 M3) (ev_up M4 (by decide))) (mt_M hm3 M4 (by decide) (by decide)) (sm_s s3 M4 e59) (gq_tr (gq_tr Q Q3) (ne_g e59 hd)) (by
              rw [ev]
              exact rp_and (h := (sn_one A e 8 o1 (tn e p1)).2.2.1 - o) ⟨b59.1, by omega⟩ (rp_g Q3 (Nat.le_refl _) R) R3.2 e59 hd (by omega) (by omega)) (fun w => by
              rw [hw w, sl_lps, if_pos c, List.append_assoc, List.append_assoc]) hr)⟩
        · rw [fw_bo_f c]
          exact fs_m_seAnd8_20 hG ⟨fun _ => ⟨fw_11, h1 g1 o1 p1 _ hr c hg1 ho1 h20 (fw_okM_ups M (by decide)) (mt_ups hm' (Or.inr ⟨rfl, by decide⟩)) (sm_k (M := [(93, 62)]) s' okM_one (by decide)) LA hw (sr_top Q (by have := s'.2.2; omega) R)⟩, u0⟩
    exact loop 21 g _ _ σ1 _ _ (by omega) (by omega) gr.1 gr.2 M1 hm1 s1 R1.1 R1.2 (fun _ => rfl) rfl)
theorem fm_m_seOr8 (hinj : nn_inj ad) : fw_H l cy ad wr cr D 342 39 (sp_m_seOr 8) := fw_mk hinj (⟨"NameNotesModel", "readOr", "()Z"⟩, prog_14_method_140_code, 2, (Option.some Jvm.ClassFile.FieldType.boolean), 0, true, 1) rfl rfl nn_KI20_ok nn_KJ20_ok nn_PF20_ok nn_PS20_ok (by decide +kernel) rfl rfl (List.forall_mem_cons.mpr ⟨fw_row nn_PM20_ok (x := 182) (k := 0) (mn := 212) (np := 0) (ob := true) (ci := 11) (⟨"NameNotesModel", "go", "()V"⟩, prog_14_method_17_code, 5, (Option.none : Option Jvm.ClassFile.FieldType), 0, true, 4) rfl (by decide +kernel) rfl rfl (by decide) (fun _ => ⟨_, _, rfl⟩) (fm_m_go hinj), (List.forall_mem_cons.mpr ⟨fw_row nn_PM20_ok (x := 225) (k := 0) (mn := 217) (np := 1) (ob := true) (ci := 11) (⟨"NameNotesModel", "isWord", "(I)Z"⟩, prog_14_method_20_code, 2, (Option.some Jvm.ClassFile.FieldType.boolean), 1, true, 1) rfl (by decide +kernel) rfl rfl (by decide) (fun _ => ⟨_, _, rfl⟩) (fm_m_isWord hinj), (List.forall_mem_cons.mpr ⟨fw_row nn_PM20_ok (x := 492) (k := 0) (mn := 343) (np := 0) (ob := true) (ci := 11) (⟨"NameNotesModel", "readAnd", "()Z"⟩, prog_14_method_141_code, 2, (Option.some Jvm.ClassFile.FieldType.boolean), 0, true, 1) rfl (by decide +kernel) rfl rfl (by decide) (fun _ => ⟨_, _, rfl⟩) (fm_m_seAnd8 hinj), (List.forall_mem_cons.mpr ⟨fw_row nn_PM20_ok (x := 498) (k := 0) (mn := 347) (np := 4) (ob := true) (ci := 11) (⟨"NameNotesModel", "saysOne", "(IIII)I"⟩, prog_14_method_139_code, 6, (Option.some Jvm.ClassFile.FieldType.int), 4, true, 0) rfl (by decide +kernel) rfl rfl (by decide) (fun _ => ⟨_, _, rfl⟩) (fm_m_saysOne hinj), (fun _ h => absurd h List.not_mem_nil)⟩)⟩)⟩)⟩) (fun as σ K h => by
  obtain ⟨A, e, p, o, z, rfl, hp, h0, h1⟩ := h
  have u0 : ∀ {X : Prop}, fw_c 0 ≠ 0 → X := fun z => absurd fw_c0 z
  have u1 : ∀ {X : Prop}, fw_c 1 = 0 → X := fun z => absurd (fw_c1.symm.trans z) (by decide)
  refine ⟨rfl, fun G hG => ?_⟩
  have loop : ∀ (f g1 o1 p1 : Nat) (τ : ab_SG) (a1 : Int) (LO : sl_T), 20 < f + o1 → 21 ≤ g1 + o1 → o + 1 ≤ o1 → o1 ≤ 20 → tw e p1 ≠ 8 → ab_okM sm_M σ τ → mt_is τ e p1 → sm_is τ o1 (8 - 8) (z + 1) → gq σ τ → rp (τ 121) (τ 93 59) (o1 - o) a1 LO → sl_cd (sn_one A e 8) (sl_one A e 8) e o p = LO ++ sl_lp (sn_one A e 8) (sl_one A e 8) e g1 false o1 p1 → sn_cd (sn_one A e 8) e o p = sn_lp (sn_one A e 8) e g1 o1 p1 → G 14 [some (2, 93, 0), some (0, 0, a1)] [] τ := by
    intro f
    induction f with
    | zero =>
      intro g1 o1 p1 τ a1 LO hf _ _ h20 _ _ _ _ _ _ _ _
      omega
    | succ f ih =>
      intro g1 o1 p1 τ a1 LO hf hg1 ho1 h20 c8 M hm' s' Q R hw hr
      obtain ⟨g2, rfl⟩ : ∃ g2, g1 = g2 + 1 := ⟨g1 - 1, by omega⟩
      rw [sn_lps] at hr
      rw [sl_lps, if_neg c8] at hw
      refine fs_m_seOr8_14 hG ⟨7, e, p1, rfl, by decide, hm'.1, ?_⟩
      show G 20 _ [(0, 0, fw_bo (tw e p1 = ((7 : Nat) : Int)))] τ
      by_cases c : tw e p1 = ((7 : Nat) : Int)
      · rw [fw_bo_t c]
        replace c : tw e p1 = 7 := c
        rw [if_pos (Or.inr c)] at hr
        rw [if_pos c] at hw
        refine fs_m_seOr8_20 hG ⟨u1, fun _ => mt_go hm' (fun τ2 N2 hm2 => fs_m_seOr8_27 hG ?_)⟩
        have M2 : ab_okM sm_M σ τ2 := ev_tr M (ev_up N2 (by decide))
        refine ⟨A, e, tn e p1, o1, z + 1, g2, rfl, ⟨sm_NM M2 hp.1, hm2, sm_k s' N2 (by decide), h20⟩, by omega, fun F eF => ⟨fun q σ' M' a b => fs_m_seOr8_31 hG ⟨u0, fun _ => ⟨fw_01, ?_⟩⟩, fun g3 o3 p3 τ3 e3 c3 hg3 ho3 h203 M3 hm3 s3 L3 w3 R3 => fs_m_seOr8_31 hG ⟨fun _ => ?_, u1⟩⟩⟩
        · rw [hr.trans eF.symm] at h0
          exact h0 q σ' (ev_tr M2 M') a b
        · have b59 := s3.2.2
          have Q3 : gq τ τ3 := gq_tr (gq_k N2 (by decide)) R3.1
          exact ⟨_, _, _, _, rfl, ⟨s3.2.2.1, by have := s3.2.2.2; omega⟩, fun v τ4 M4 e59 ev hd => fs_m_seOr8_47 hG (ih g3 o3 p3 τ4 v (LO ++ (L3 ++ [(2, 0)])) (by omega) hg3 (by omega) h203 c3 (ev_tr (ev_tr M2 M3) (ev_up M4 (by decide))) (mt_M hm3 M4 (by decide) (by decide)) (sm_s s3 M4 e59) (gq_tr (gq_tr Q Q3) (ne_g e59 hd)) (by
            rw [ev]
            exact rp_or (h := o3 - o) ⟨b59.1, by omega⟩ (rp_g Q3 (Nat.le_refl _) R) R3.2 e59 hd (by omega) (by omega)) (by
            have w4 := w3 true
            rw [sl_lp_t c3] at w4
            rw [hw, w4, List.append_assoc, List.append_assoc]
            rfl) ((hr.trans eF.symm).trans e3))⟩
      · rw [fw_bo_f c]
        replace c : tw e p1 ≠ 7 := c
        rw [if_neg (fun u => u.elim c8 c)] at hr
        rw [if_neg c] at hw
        rw [hr, hw] at h1
        exact fs_m_seOr8_20 hG ⟨fun _ => ⟨fw_11, h1 rfl _ (fw_okM_ups M (by decide)) (mt_ups hm' (Or.inr ⟨rfl, by decide⟩)) (sm_k (M := [(93, 62)]) s' okM_one (by decide)) (by
          rw [show fl false = [] from rfl, List.append_nil]
          exact sr_top Q (by have := s'.2.2; omega) R)⟩, u0⟩
  refine fs_m_seOr8_0 hG ⟨A, e, p, o, z, 20, rfl, hp, by omega, fun F eF => ⟨fun q σ' M a b => fs_m_seOr8_4 hG ⟨u0, fun _ => ⟨fw_01, ?_⟩⟩, fun g' o' p' σ1 eq c8 hg ho1 ho2 M1 hm1 s1 LA wA RA => fs_m_seOr8_4 hG ⟨fun _ => ?_, u1⟩⟩⟩
  · have ec : sn_cd (sn_one A e 8) e o p = F := eF.symm
    rw [ec] at h0
    exact h0 q σ' M a b
  · have ec : sn_cd (sn_one A e 8) e o p = F := eF.symm
    exact loop 21 g' o' p' σ1 _ LA (by omega) hg ho1 ho2 c8 M1 hm1 s1 RA.1 RA.2 (wA false) (ec.trans eq))
end
abbrev fk_m_sentence : List fw_CR := [(168, 1, true, 11, 0, sp_m_bad), (249, 1, true, 11, 2, sp_m_begin), (522, 0, true, 11, 39, sp_m_seOr 8)]
abbrev st_m_sentence : fw_K → fw_KR → fw_K := fw_st vwCl nn_sh nn_kd fw_kv fw_wc (nn_KI20.map (fun x => x.1)) (nn_KJ20.map (fun x => x.1)) (nn_PF20.map (fun x => x.1)) (nn_PS20.map (fun x => x.1)) fk_m_sentence 40 nn_dt341 2 0
theorem fs_m_sentence_0 {G : fw_K} {R : fw_KR} (hG : fw_cls st_m_sentence R G) {σ : ab_SG} (h : sp_m_begin [(2, 93, 0), (0, 0, 200)] σ (fun rv σ2 => G 7 [some (2, 93, 0), none] (rv.toList ++ []) σ2)) : G 0 [some (2, 93, 0), none] [] σ := fw_on hG [7, 26, 48, 79] 200 h
theorem fs_m_sentence_7 {G : fw_K} {R : fw_KR} (hG : fw_cls st_m_sentence R G) {o1 : Option ab_AV} {σ : ab_SG} (h : sp_m_seOr 8 [(2, 93, 0)] (ab_ups (ab_ups (ab_ups σ 93 59 (fw_c 0)) 93 60 (fw_c 0)) 93 61 (fw_c 0)) (fun rv σ2 => G 26 [some (2, 93, 0), o1] (rv.toList ++ []) σ2)) : G 7 [some (2, 93, 0), o1] [] σ := fw_on hG [7, 26, 48, 79] 200 h
theorem fs_m_sentence_26 {G : fw_K} {R : fw_KR} (hG : fw_cls st_m_sentence R G) {b0 : Int} {o1 : Option ab_AV} {σ : ab_SG} (h : (fw_c b0 ≠ 0 → (fw_c (σ 93 7) = 0 → (0 ≤ fw_c 232 ∧ fw_c 232 < ((474 : Nat) : Int)) ∧ True ∧ ((0 ≤ fw_c 233 ∧ fw_c 233 < ((474 : Nat) : Int)) ∧ True ∧ (G 79 [some (2, 93, 0), some (0, 0, 0)] [] (ab_ups (ab_ups σ 95 (fw_c 232).toNat (fw_c 1)) 95 (fw_c 233).toNat (fw_c (σ 93 62)))))) ∧ (fw_c (σ 93 7) ≠ 0 → sp_m_bad [(2, 93, 0), (0, 0, 1)] σ (fun rv σ2 => G 48 [some (2, 93, 0), o1] (rv.toList ++ []) σ2))) ∧ (fw_c b0 = 0 → R (some (0, 0, (-1) - (σ 93 11))) σ)) : G 26 [some (2, 93, 0), o1] [(0, 0, b0)] σ := fw_on hG [7, 26, 48, 79] 200 h
theorem fs_m_sentence_79 {G : fw_K} {R : fw_KR} (hG : fw_cls st_m_sentence R G) {a1 : Int} {σ : ab_SG} (h : (fw_c 240 ≤ fw_c a1 → R (some (0, 0, σ 93 60)) σ) ∧ (fw_c a1 < fw_c 240 → (0 ≤ fw_c a1 ∧ fw_c a1 < ((240 : Nat) : Int)) ∧ ((0 ≤ fw_c (234 + a1) ∧ fw_c (234 + a1) < ((474 : Nat) : Int)) ∧ True ∧ (G 79 [some (2, 93, 0), some (0, 0, a1 + 1)] [] (ab_ups σ 95 (fw_c (234 + a1)).toNat (fw_c (σ 121 (fw_c a1).toNat))))))) : G 79 [some (2, 93, 0), some (0, 0, a1)] [] σ := fw_on hG [7, 26, 48, 79] 200 h
theorem fs_m_sentence_48 {G : fw_K} {R : fw_KR} (hG : fw_cls st_m_sentence R G) {b0 : Int} {o1 : Option ab_AV} {σ : ab_SG} (h : R (some (0, 0, (-1) - (σ 93 11))) σ) : G 48 [some (2, 93, 0), o1] [(0, 0, b0)] σ := fw_on hG [7, 26, 48, 79] 200 h
section
variable {l : Launch} {cy : Nat → ClassId} {ad wr cr : Nat → Nat} {D : va_G}
theorem fm_m_sentence (hinj : nn_inj ad) : fw_H l cy ad wr cr D 341 40 sp_m_sentence := fw_mk hinj (⟨"NameNotesModel", "sentence", "()I"⟩, prog_14_method_147_code, 2, (Option.some Jvm.ClassFile.FieldType.int), 0, true, 0) rfl rfl nn_KI20_ok nn_KJ20_ok nn_PF20_ok nn_PS20_ok (by decide +kernel) rfl rfl (List.forall_mem_cons.mpr ⟨fw_row nn_PM20_ok (x := 168) (k := 0) (mn := 221) (np := 1) (ob := true) (ci := 11) (⟨"NameNotesModel", "bad", "(I)Z"⟩, prog_14_method_23_code, 2, (Option.some Jvm.ClassFile.FieldType.boolean), 1, true, 1) rfl (by decide +kernel) rfl rfl (by decide) (fun _ => ⟨_, _, rfl⟩) (fm_m_bad hinj), (List.forall_mem_cons.mpr ⟨fw_row nn_PM20_ok (x := 249) (k := 0) (mn := 209) (np := 1) (ob := true) (ci := 11) (⟨"NameNotesModel", "begin", "(I)V"⟩, prog_14_method_27_code, 2, (Option.none : Option Jvm.ClassFile.FieldType), 1, true, 4) rfl (by decide +kernel) rfl rfl (by decide) (fun _ => ⟨_, _, rfl⟩) (fm_m_begin hinj), (List.forall_mem_cons.mpr ⟨fw_row nn_PM20_ok (x := 522) (k := 0) (mn := 342) (np := 0) (ob := true) (ci := 11) (⟨"NameNotesModel", "readOr", "()Z"⟩, prog_14_method_140_code, 2, (Option.some Jvm.ClassFile.FieldType.boolean), 0, true, 1) rfl (by decide +kernel) rfl rfl (by decide) (fun _ => ⟨_, _, rfl⟩) (fm_m_seOr8 hinj), (fun _ h => absurd h List.not_mem_nil)⟩)⟩)⟩) (fun as σ K h => by
  obtain ⟨A, t, rfl, hb, ht, hly, hN0, hf, hg⟩ := h
  refine ⟨rfl, fun G hG => fs_m_sentence_0 hG ⟨200, t, rfl, by decide, hb, ht, hly, fun σ1 M1 hm1 l1 z1 _ => fs_m_sentence_7 hG ?_⟩⟩
  rw [fw_c0]
  obtain ⟨N1, -⟩ := NM_ly M1 l1 hN0
  generalize he : ((t, (σ 93 2).toNat, 200) : tk_E) = e at hf hg hm1
  have M2 : ab_okM sm_M σ1 (ab_ups (ab_ups (ab_ups σ1 93 59 0) 93 60 0) 93 61 0) := fw_okM_ups (fw_okM_ups (fw_okM_ups (fw_okM_refl _ _) (by decide)) (by decide)) (by decide)
  have hm2 : mt_is (ab_ups (ab_ups (ab_ups σ1 93 59 0) 93 60 0) 93 61 0) e 0 := mt_ups (mt_ups (mt_ups hm1 (Or.inr ⟨rfl, by decide⟩)) (Or.inr ⟨rfl, by decide⟩)) (Or.inr ⟨rfl, by decide⟩)
  have s2 : sm_is (ab_ups (ab_ups (ab_ups σ1 93 59 0) 93 60 0) 93 61 0) 0 (8 - 8) 0 := ⟨(ab_ups_ne (by decide)).trans ab_ups_eq, ab_ups_eq, by rw [ab_ups_ne (by decide), ab_ups_ne (by decide), ab_ups_eq]; decide⟩
  generalize ab_ups (ab_ups (ab_ups σ1 93 59 0) 93 60 0) 93 61 0 = σ2 at M2 hm2 s2 ⊢
  -- what is known of a state behind
  have beh : ∀ τ : ab_SG, ab_okM sm_M σ1 τ → sN_ok σ τ ∧ ly_is σ τ ∧ τ 93 2 = 0 := fun τ M => by
    have a : τ 93 22 = σ1 93 22 := mk_at M (by decide)
    have b : τ 95 3 = σ1 95 3 := mk_row M (by decide) 3
    refine ⟨fun a b q _ => ?_, ⟨a.trans l1.1, fun y => b.trans (l1.2.1 y), fun y => b.trans (l1.2.2 y)⟩, (mk_at M (k := 93) (j := 2) (by decide)).trans z1⟩
    have m1 : ∀ q ∈ sm_M, q ∈ sM_N := by decide
    have m2 : ∀ q ∈ bg_M, q ∈ sM_N := by decide
    exact (M a b (fun r hr => q r (m1 r hr))).trans (M1 a b (fun r hr => q r (m2 r hr)))
  have beh2 : ∀ τ : ab_SG, ab_okM sm_M σ1 τ → ab_okM sM_N σ τ := fun τ M a b q => by
    have m1 : ∀ q ∈ sm_M, q ∈ sM_N := by decide
    have m2 : ∀ q ∈ bg_M, q ∈ sM_N := by decide
    exact (M a b (fun r hr => q r (m1 r hr))).trans (M1 a b (fun r hr => q r (m2 r hr)))
  generalize hr : sn_cd (sn_one A e 8) e 0 0 = r at *
  have er : sn_r A e = if r.1 ≠ 0 then r else if (tk e r.2.2.2).1 ≠ 0 then (1, ev_st e r.2.2.2, r.2.2.1, r.2.2.2) else r := by
    unfold sn_r
    rw [hr]
  refine ⟨A, e, 0, 0, 0, rfl, ⟨ev_NM M2 (by decide +kernel) N1, hm2, s2, by decide⟩, ?_⟩
  rw [hr]
  refine ⟨fun q σ' M a b => fs_m_sentence_26 hG ⟨fun z => absurd fw_c0 z, fun _ => ?_⟩, fun q σ3 M hm3 s3 R3 => fs_m_sentence_26 hG ⟨fun _ => ?_, fun z => absurd (fw_c1.symm.trans z) (by decide)⟩⟩
  · rw [if_pos q] at er
    have k := beh σ' (ev_tr M2 M)
    have g := hf (by rw [er]; exact q) σ' (beh2 σ' (ev_tr M2 M)) k.2.2 k.2.1 (by rw [er]; exact a)
    unfold v_se at g
    rw [if_pos (by rw [er]; exact q), er] at g
    rw [b]
    exact g
  · rw [if_neg (fun u => u q)] at er
    have gr := sn_cd_gr (e := e) (sn_one_gr A e 8) 0 0 (by decide) (by rw [hr]; exact q)
    rw [hr] at gr
    have M3 : ab_okM sm_M σ1 σ3 := ev_tr M2 M
    have kk := mg_kind hm3.1
    have c7 : fw_c (σ3 93 7) = σ3 93 7 := fw_s (by omega) (by omega)
    rw [c7]
    refine ⟨fun z => ?_, fun z => ?_⟩
    · have z0 := kk.2.2.2.1.mp z
      rw [if_neg (fun u => u z0)] at er
      have c232 : fw_c 232 = 232 := fw_s (by decide) (by decide)
      have c233 : fw_c 233 = 233 := fw_s (by decide) (by decide)
      have t232 : (fw_c 232).toNat = 232 := by rw [c232]; rfl
      have t233 : (fw_c 233).toNat = 233 := by rw [c233]; rfl
      have c240 : fw_c 240 = 240 := fw_s (by decide) (by decide)
      rw [t232, t233, c232, c233]
      refine ⟨by decide, trivial, by decide, trivial, ?_⟩
      have k := beh σ3 M3
      have n3 : σ3 93 59 ≤ 60 := by have := s3.2.2; omega
      have lr := sl_r_ok A e ⟨hN0.1.1.1, hN0.1.2.1.1, hN0.1.2.2.1.1⟩ (by rw [er]; exact q)
      have hvc : ∀ x ∈ sl_r A e, fw_c x.2 = x.2 := fun x hx => (vs_c ⟨⟨hN0.1.1.1, hN0.1.1.2⟩, ⟨hN0.1.2.1.1, hN0.1.2.1.2⟩, ⟨hN0.1.2.2.1.1, hN0.1.2.2.1.2⟩⟩ (lr.2.1 x hx)).2
      have R4 := rp_fc n3 _ _ (sl_r A e) hvc R3.2
      have c62 : fw_c (σ3 93 62) = σ3 93 62 := by
        have b := rp_bd R3.2
        exact fw_s (by omega) (by omega)
      have loop : ∀ (f i : Nat) (τ : ab_SG), i + f = 240 → (∀ a b : Nat, ¬ (a = 95 ∧ 232 ≤ b ∧ b < 474) → τ a b = σ3 a b) → (τ 95 232 = 1 ∧ τ 95 233 = σ3 93 62 ∧ ∀ j : Nat, j < i → τ 95 (234 + j) = fw_c (σ3 121 j)) → G 79 [some (2, 93, 0), some (0, 0, (i : Int))] [] τ := by
        intro f
        induction f with
        | zero =>
          intro i τ hi hk hn
          have ei : i = 240 := by omega
          subst ei
          refine fs_m_sentence_79 hG ⟨fun _ => ?_, fun z => absurd z (Int.lt_irrefl _)⟩
          have g := hg (by rw [er]; exact q) τ (fun a b h1 h2 => (hk a b h2).trans (k.1 a b h1 h2)) ((hk 93 2 (by decide)).trans k.2.2) ⟨(hk 93 22 (by decide)).trans k.2.1.1, fun y => (hk 95 3 (by decide)).trans (k.2.1.2.1 y), fun y => (hk 95 3 (by decide)).trans (k.2.1.2.2 y)⟩ ((hk 93 10 (by decide)).trans hm3.2.2.2.2.2.1) ⟨hn.1, by
            rw [hn.2.1]
            exact rp_mono n3 (fun j hj => hn.2.2 j (by omega)) _ 20 _ _ (by omega) R4⟩
          unfold v_se at g
          rw [if_neg (fun u => u (by rw [er]; exact q)), er] at g
          rw [hk 93 60 (by decide), s3.1]
          exact g
        | succ f ih =>
          intro i τ hi hk hn
          have ci : fw_c (i : Int) = (i : Int) := fw_s (by omega) (by omega)
          have ci2 : fw_c (234 + (i : Int)) = ((234 + i : Nat) : Int) := fw_s (x := 234 + (i : Int)) (by omega) (by omega)
          refine fs_m_sentence_79 hG ⟨fun z => absurd z (by rw [c240, ci]; omega), fun _ => ?_⟩
          rw [ci, ci2]
          refine ⟨⟨by omega, by show (i : Int) < (240 : Int); omega⟩, ⟨by omega, by show ((234 + i : Nat) : Int) < (474 : Int); omega⟩, trivial, ?_⟩
          rw [Int.toNat_natCast, Int.toNat_natCast]
          have g := ih (i + 1) (ab_ups τ 95 (234 + i) (fw_c (τ 121 i))) (by omega) (fun a b h2 => by
            rw [ab_ups_ne (fun z => h2 ⟨z.1, by omega, by omega⟩)]
            exact hk a b h2) ⟨(ab_ups_ne (fun z => by have := z.2; omega)).trans hn.1, (ab_ups_ne (fun z => by have := z.2; omega)).trans hn.2.1, fun j hj => by
            by_cases y : j = i
            · rw [y, ab_ups_eq, hk 121 i (fun z => absurd z.1 (by decide))]
            · rw [ab_ups_ne (fun z => by have := z.2; omega)]
              exact hn.2.2 j (by omega)⟩
          rw [show ((i + 1 : Nat) : Int) = (i : Int) + 1 from rfl] at g
          exact g
      exact loop 240 0 _ rfl (fun a b h2 => by
        rw [ab_ups_ne (fun z => h2 ⟨z.1, by omega, by omega⟩), ab_ups_ne (fun z => h2 ⟨z.1, by omega, by omega⟩)]) ⟨(ab_ups_ne (by decide)).trans (ab_ups_eq.trans fw_c1), ab_ups_eq.trans c62, fun j hj => absurd hj (Nat.not_lt_zero j)⟩
    · have z0 : (tk e r.2.2.2).1 ≠ 0 := fun y => z (kk.2.2.2.1.mpr y)
      rw [if_pos z0] at er
      refine mp_bad hm3.1 (by decide) (fun σ' hM h10 h11 => fs_m_sentence_48 hG ?_)
      have k := beh σ' (ev_tr M3 (ev_up hM (by decide)))
      have e10 : σ' 93 10 = 1 := by
        rw [h10]
        split <;> rfl
      have g := hf (by rw [er]; show ¬ (1 : Int) = 0; decide) σ' (beh2 σ' (ev_tr M3 (ev_up hM (by decide)))) k.2.2 k.2.1 (by rw [er]; exact e10)
      unfold v_se at g
      rw [if_pos (by rw [er]; show ¬ (1 : Int) = 0; decide), er] at g
      rw [h11]
      exact g)
end
end
