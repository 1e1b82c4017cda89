section
/-! what a studio tells, what is kept of it, what may be taken back: both sides -/
def sw_T : List (Nat × Nat) := [(4, 81), (5, 81), (6, 9), (7, 324), (8, 6), (9, 45), (10, 5), (19, 81), (20, 81), (21, 9), (22, 324), (23, 6), (24, 45), (25, 5), (34, 81), (35, 81), (36, 9), (37, 324), (38, 6), (39, 45), (40, 5), (86, 88), (95, 232), (98, 400)]
def sw_L : List (Nat × Nat) := [(11, 9), (12, 6), (13, 5), (26, 9), (27, 6), (28, 5), (41, 9), (42, 6), (43, 5), (99, 20), (101, 40)]
def sw (k j : Nat) : Prop := (∃ q ∈ sw_T, k = q.1 ∧ j < q.2) ∨ (k = 85 ∧ j = 1) ∨ (k = 93 ∧ j = 24)
def sl (k j : Nat) : Prop := ∃ q ∈ sw_L, k = q.1 ∧ j < q.2
theorem sw_ck : sw_T.all (fun q => su_b q.1 0 (q.2 - 1) && (match nn_sh[q.1]? with | some (Sum.inr z) => !(z.1.beq 1) && q.2.ble z.2 | _ => false)) = true := by decide +kernel
theorem sl_ck : sw_L.all (fun q => sl_b q.1 0 (q.2 - 1) && (match nn_sh[q.1]? with | some (Sum.inr z) => z.1.beq 1 && q.2.ble z.2 | _ => false)) = true := by decide +kernel
theorem sw_f : (su_b 85 1 1 && su_b 93 24 24) = true := by decide +kernel
theorem sw_cn {σ : ab_SG} (hR : ab_okR nn_T σ) {k j : Nat} (h : sw k j) : fw_c (σ k j) = σ k j := by
  have hf := sw_f
  rw [Bool.and_eq_true] at hf
  rcases h with ⟨q, hq, rfl, hj⟩ | ⟨rfl, rfl⟩ | ⟨rfl, rfl⟩
  · have g := List.all_eq_true.mp sw_ck q hq
    rw [Bool.and_eq_true] at g
    exact su_b_ok g.1 hR (Nat.zero_le _) (by omega)
  · exact su_b_ok hf.1 hR (Nat.le_refl _) (Nat.le_refl _)
  · exact su_b_ok hf.2 hR (Nat.le_refl _) (Nat.le_refl _)
theorem sl_cn {σ : ab_SG} (hR : ab_okR nn_T σ) {k j : Nat} (h : sl k j) : fw_d (σ k j) = σ k j := by
  obtain ⟨q, hq, rfl, hj⟩ := h
  have g := List.all_eq_true.mp sl_ck q hq
  rw [Bool.and_eq_true] at g
  exact sl_b_ok g.1 hR (Nat.zero_le _) (by omega)
theorem sw_vw {cy : Nat → ClassId} {ad wr : Nat → Nat} {D : va_G} {σ σ' : ab_SG} {H : Heap} (h : va_P D vwCl (ab_WD cy ad wr nn_sh σ) H) (h' : va_P D vwCl (ab_WD cy ad wr nn_sh σ') H) {k j : Nat} (hs : sw k j) : fw_c (σ k j) = fw_c (σ' k j) := by
  rcases hs with ⟨q, hq, rfl, hj⟩ | ⟨rfl, rfl⟩ | ⟨rfl, rfl⟩
  · have g := List.all_eq_true.mp sw_ck q hq
    rw [Bool.and_eq_true] at g
    have g2 := g.2
    cases hz : nn_sh[q.1]? with
    | none => rw [hz] at g2; cases g2
    | some z =>
      cases z with
      | inl z => rw [hz] at g2; cases g2
      | inr z =>
        obtain ⟨t, n⟩ := z
        rw [hz] at g2
        have g3 : (!(t.beq 1) && q.2.ble n) = true := g2
        rw [Bool.and_eq_true] at g3
        have g4 := Nat.le_of_ble_eq_true g3.2
        refine wd_arr h h' (k := q.1) (t := t) (n := n) hz (fun e => ?_) (by omega)
        subst e
        exact absurd g3.1 (by decide)
  · exact wd_int h h' (k := 85) (j := 1) rfl rfl rfl (by decide)
  · exact wd_int h h' (k := 93) (j := 24) rfl rfl rfl (by decide)
theorem sl_vw {cy : Nat → ClassId} {ad wr : Nat → Nat} {D : va_G} {σ σ' : ab_SG} {H : Heap} (h : va_P D vwCl (ab_WD cy ad wr nn_sh σ) H) (h' : va_P D vwCl (ab_WD cy ad wr nn_sh σ') H) {k j : Nat} (hs : sl k j) : fw_d (σ k j) = fw_d (σ' k j) := by
  obtain ⟨q, hq, rfl, hj⟩ := hs
  have g := List.all_eq_true.mp sl_ck q hq
  rw [Bool.and_eq_true] at g
  have g2 := g.2
  cases hz : nn_sh[q.1]? with
  | none => rw [hz] at g2; cases g2
  | some z =>
    cases z with
    | inl z => rw [hz] at g2; cases g2
    | inr z =>
      obtain ⟨t, n⟩ := z
      rw [hz] at g2
      have g3 : (t.beq 1 && q.2.ble n) = true := g2
      rw [Bool.and_eq_true] at g3
      have g4 := Nat.le_of_ble_eq_true g3.2
      have g5 : t = 1 := Nat.eq_of_beq_eq_true g3.1
      subst g5
      exact wd_larr h h' (k := q.1) (n := n) hz (by omega)
/-- as a number that fits; one heap, two worlds -/
def cN (σ : ab_SG) : Prop := (∀ k j : Nat, su k j ∨ sw k j → fw_c (σ k j) = σ k j) ∧ ∀ k j : Nat, sl k j → fw_d (σ k j) = σ k j
def vW (σ' σ : ab_SG) : Prop := (∀ k j : Nat, su k j ∨ sw k j → σ' k j = fw_c (σ k j)) ∧ ∀ k j : Nat, sl k j → σ' k j = fw_d (σ k j)
theorem cN_of {σ : ab_SG} (h : ab_okR nn_T σ) : cN σ := ⟨fun k j hs => hs.elim (cn_of h k j) (sw_cn h), fun _ _ hs => sl_cn h hs⟩
theorem vW_of {cy : Nat → ClassId} {ad wr : Nat → Nat} {D : va_G} {σ σ' : ab_SG} {H : Heap} (hR : ab_okR nn_T σ) (h : va_P D vwCl (ab_WD cy ad wr nn_sh σ) H) (h' : va_P D vwCl (ab_WD cy ad wr nn_sh σ') H) : vW σ σ' :=
  ⟨fun k j hs => hs.elim (vw_of hR h h' k j) (fun hs => (sw_cn hR hs).symm.trans (sw_vw h h' hs)), fun _ _ hs => (sl_cn hR hs).symm.trans (sl_vw h h' hs)⟩
theorem cn_N {σ : ab_SG} (h : cN σ) : cn σ := fun k j hs => h.1 k j (Or.inl hs)
theorem vw_W {σ' σ : ab_SG} (h : vW σ' σ) : vw σ' σ := fun k j hs => h.1 k j (Or.inl hs)
theorem swr {k n : Nat} (hq : (k, n) ∈ sw_T) {j : Nat} (hj : j < n) : sw k j := Or.inl ⟨(k, n), hq, rfl, hj⟩
theorem slr {k n : Nat} (hq : (k, n) ∈ sw_L) {j : Nat} (hj : j < n) : sl k j := ⟨(k, n), hq, rfl, hj⟩
theorem sw85 : sw 85 1 := Or.inr (Or.inl ⟨rfl, rfl⟩)
theorem sw93 : sw 93 24 := Or.inr (Or.inr ⟨rfl, rfl⟩)
section
variable {M1 M2 : ab_ML} {σ σ1 σm σ2 σ5 : ab_SG}
theorem xm_at (hc : cN σ) (h1 : ab_okM M1 σ σ1) (hv : vW σm σ1) {k j : Nat} (hs : su k j ∨ sw k j) (b1 : mk_b M1 k j = true) : σm k j = σ k j := by
  rw [hv.1 k j hs, mk_at h1 b1]
  exact hc.1 k j hs
theorem xm_l (hc : cN σ) (h1 : ab_okM M1 σ σ1) (hv : vW σm σ1) {k j : Nat} (hs : sl k j) (b1 : mk_b M1 k j = true) : σm k j = σ k j := by
  rw [hv.2 k j hs, mk_at h1 b1]
  exact hc.2 k j hs
theorem xt_at (hc : cN σ) (h1 : ab_okM M1 σ σ1) (hv : vW σm σ1) (h2 : ab_okM M2 σm σ2) (hw : vW σ5 σ2) {k j : Nat} (hs : su k j ∨ sw k j) (b1 : mk_b M1 k j = true) (b2 : mk_b M2 k j = true) : σ5 k j = σ k j := by
  rw [hw.1 k j hs, mk_at h2 b2, xm_at hc h1 hv hs b1]
  exact hc.1 k j hs
theorem xt_l (hc : cN σ) (h1 : ab_okM M1 σ σ1) (hv : vW σm σ1) (h2 : ab_okM M2 σm σ2) (hw : vW σ5 σ2) {k j : Nat} (hs : sl k j) (b1 : mk_b M1 k j = true) (b2 : mk_b M2 k j = true) : σ5 k j = σ k j := by
  rw [hw.2 k j hs, mk_at h2 b2, xm_l hc h1 hv hs b1]
  exact hc.2 k j hs
end
def cp_n : List (Nat × Nat) := [(1, 81), (2, 81), (3, 9), (4, 324), (5, 6), (6, 45), (7, 5), (8, 9), (9, 6), (10, 5)]
theorem cp_sw : ∀ q ∈ cp_n, ∀ b : Nat, (b = 3 ∨ b = 18 ∨ b = 33) → (b + q.1, q.2) ∈ sw_T ∨ (b + q.1, q.2) ∈ sw_L := by
  intro q hq b hb
  have h : cp_n.all (fun q => [3, 18, 33].all (fun b => decide ((b + q.1, q.2) ∈ sw_T ∨ (b + q.1, q.2) ∈ sw_L))) = true := by decide +kernel
  have h1 := List.all_eq_true.mp (List.all_eq_true.mp h q hq) b (by rcases hb with rfl | rfl | rfl <;> decide)
  exact of_decide_eq_true h1
theorem cp_su {b j : Nat} (hb : b = 3 ∨ b = 18 ∨ b = 33) (h1 : 11 ≤ j) (h2 : j ≤ 14) : su b j := by
  rcases hb with rfl | rfl | rfl
  · exact su3 h1 h2
  · exact su18 (Or.inl ⟨h1, h2⟩)
  · exact su33 (Or.inl ⟨h1, h2⟩)
/-- a list that leaves a studio of the class -/
def rc_b (M : ab_ML) (b : Nat) : Bool := cp_n.all (fun q => M.all (fun z => !(z.1.beq (b + q.1)))) && [11, 12, 13, 14].all (fun j => mk_b M b j)
theorem off_mk {M : ab_ML} {k : Nat} (h : M.all (fun z => !(z.1.beq k)) = true) (j : Nat) : mk_b M k j = true := by
  refine List.all_eq_true.mpr (fun q hq => ?_)
  have h1 := List.all_eq_true.mp h q hq
  cases e : q.1.beq k with
  | true => rw [e] at h1; cases h1
  | false => rfl
theorem rc_f {M : ab_ML} {b j : Nat} (h : rc_b M b = true) (h1 : 11 ≤ j) (h2 : j ≤ 14) : mk_b M b j = true := by
  unfold rc_b at h
  rw [Bool.and_eq_true] at h
  refine List.all_eq_true.mp h.2 j ?_
  rcases (show j = 11 ∨ j = 12 ∨ j = 13 ∨ j = 14 by omega) with rfl | rfl | rfl | rfl <;> decide
theorem rc_r {M : ab_ML} {b : Nat} (h : rc_b M b = true) {q : Nat × Nat} (hq : q ∈ cp_n) (j : Nat) : mk_b M (b + q.1) j = true := by
  unfold rc_b at h
  rw [Bool.and_eq_true] at h
  exact off_mk (List.all_eq_true.mp h.1 q hq) j
def cb_is (σ' σ : ab_SG) (b : Nat) : Prop := (∀ j : Nat, 11 ≤ j → j ≤ 14 → σ' b j = σ b j) ∧ ∀ q ∈ cp_n, ∀ j : Nat, j < q.2 → σ' (b + q.1) j = σ (b + q.1) j
theorem cb_stay {M1 M2 : ab_ML} {σ σ1 σm σ2 σ5 : ab_SG} {b : Nat} (hb : b = 3 ∨ b = 18 ∨ b = 33) (hc : cN σ) (h1 : ab_okM M1 σ σ1) (hv : vW σm σ1) (h2 : ab_okM M2 σm σ2) (hw : vW σ5 σ2) (m1 : rc_b M1 b = true) (m2 : rc_b M2 b = true) : cb_is σ5 σ b := by
  refine ⟨fun j a c => xt_at hc h1 hv h2 hw (Or.inl (cp_su hb a c)) (rc_f m1 a c) (rc_f m2 a c), fun q hq j hj => ?_⟩
  rcases cp_sw q hq b hb with z | z
  · exact xt_at hc h1 hv h2 hw (Or.inr (swr z hj)) (rc_r m1 hq j) (rc_r m2 hq j)
  · exact xt_l hc h1 hv h2 hw (slr z hj) (rc_r m1 hq j) (rc_r m2 hq j)
theorem cn_cg {σ σ' A : ab_SG} {b : Nat} (hi : RI A) (e : cb_is σ' σ b) (h : cn_is σ b A) : cn_is σ' b A := by
  obtain ⟨e1, e2⟩ := e
  obtain ⟨i1, i2, i3, -, -, -, i7, -⟩ := hi
  obtain ⟨h1, h2, h3, h4, h5, h6, h7, h8, h9, h10⟩ := h
  have f : ∀ d n : Nat, (d, n) ∈ cp_n → ∀ j : Nat, j < n → σ' (b + d) j = σ (b + d) j := fun d n hq j hj => e2 (d, n) hq j hj
  refine ⟨(e1 11 (by decide) (by decide)).trans h1, (e1 12 (by decide) (by decide)).trans h2, (e1 13 (by decide) (by decide)).trans h3, (e1 14 (by decide) (by decide)).trans h4, fun x hx => ?_, fun c hc => ?_, fun j hj => (f 6 45 (by decide) j hj).trans (h7 j hj), fun j hj => (f 7 5 (by decide) j hj).trans (h8 j hj), fun p hp => (f 10 5 (by decide) p (by omega)).trans (h9 p hp), fun w x y hw hx hy => (f 4 324 (by decide) _ (by omega)).trans (h10 w x y hw hx hy)⟩
  · obtain ⟨a, c, d⟩ := h5 x hx
    refine ⟨(f 3 9 (by decide) x (by omega)).trans a, (f 8 9 (by decide) x (by omega)).trans c, fun i hi => ?_⟩
    have h9' := i7 x (by omega)
    exact ⟨(f 1 81 (by decide) _ (by omega)).trans (d i hi).1, (f 2 81 (by decide) _ (by omega)).trans (d i hi).2⟩
  · exact ⟨(f 5 6 (by decide) c (by omega)).trans (h6 c hc).1, (f 9 6 (by decide) c (by omega)).trans (h6 c hc).2⟩
theorem cn_see {σ σ' A : ab_SG} {b : Nat} (hi : RI A) (hn : nb_is A) (h : cn_is σ b A) (he : ∀ j : Nat, 11 ≤ j → j ≤ 14 → σ' b j = fw_c (σ b j)) (hd : ∀ d n : Nat, (d, n) ∈ [(1, 81), (2, 81), (3, 9), (4, 324), (5, 6), (6, 45), (7, 5)] → ∀ j : Nat, j < n → σ' (b + d) j = fw_c (σ (b + d) j)) (hl : ∀ d n : Nat, (d, n) ∈ [(8, 9), (9, 6), (10, 5)] → ∀ j : Nat, j < n → σ' (b + d) j = fw_d (σ (b + d) j)) : cn_is σ' b A := by
  have c : ∀ v : Int, 0 ≤ v → v ≤ 1000 → fw_c v = v := fun v h1 h2 => fw_c_id (by omega) (by omega)
  have i1 := hi.1
  have i2 := hi.2.1
  have i3 := hi.2.2.1
  obtain ⟨r1, r2, r3, r4, r5, r6, r7, r8, r9, r10⟩ := h
  have d1 : ∀ j : Nat, j < 81 → σ' (b + 1) j = fw_c (σ (b + 1) j) := fun j hj => hd 1 81 (by decide) j hj
  have d2 : ∀ j : Nat, j < 81 → σ' (b + 2) j = fw_c (σ (b + 2) j) := fun j hj => hd 2 81 (by decide) j hj
  have d3 : ∀ j : Nat, j < 9 → σ' (b + 3) j = fw_c (σ (b + 3) j) := fun j hj => hd 3 9 (by decide) j hj
  have d4 : ∀ j : Nat, j < 324 → σ' (b + 4) j = fw_c (σ (b + 4) j) := fun j hj => hd 4 324 (by decide) j hj
  have d5 : ∀ j : Nat, j < 6 → σ' (b + 5) j = fw_c (σ (b + 5) j) := fun j hj => hd 5 6 (by decide) j hj
  have d6 : ∀ j : Nat, j < 45 → σ' (b + 6) j = fw_c (σ (b + 6) j) := fun j hj => hd 6 45 (by decide) j hj
  have d7 : ∀ j : Nat, j < 5 → σ' (b + 7) j = fw_c (σ (b + 7) j) := fun j hj => hd 7 5 (by decide) j hj
  have d8 : ∀ j : Nat, j < 9 → σ' (b + 8) j = fw_d (σ (b + 8) j) := fun j hj => hl 8 9 (by decide) j hj
  have d9 : ∀ j : Nat, j < 6 → σ' (b + 9) j = fw_d (σ (b + 9) j) := fun j hj => hl 9 6 (by decide) j hj
  have d10 : ∀ j : Nat, j < 5 → σ' (b + 10) j = fw_d (σ (b + 10) j) := fun j hj => hl 10 5 (by decide) j hj
  have e1 : σ' b 11 = fw_c (σ b 11) := he 11 (by decide) (by decide)
  have e2 : σ' b 12 = fw_c (σ b 12) := he 12 (by decide) (by decide)
  have e3 : σ' b 13 = fw_c (σ b 13) := he 13 (by decide) (by decide)
  have e4 : σ' b 14 = fw_c (σ b 14) := he 14 (by decide) (by decide)
  refine ⟨?_, ?_, ?_, ?_, fun x hx => ⟨?_, ?_, fun i hi2 => ⟨?_, ?_⟩⟩, fun q hq => ⟨?_, ?_⟩, fun j hj => ?_, fun j hj => ?_, fun p hp => ?_, fun w x y hw hx hy => ?_⟩
  · rw [e1, r1]; exact c _ (by omega) (by omega)
  · rw [e2, r2]; exact c _ (by omega) (by omega)
  · rw [e3, r3]; exact c _ (by omega) (by omega)
  · have := hn.2.2.2.2
    rw [e4, r4]; exact c _ (by omega) (by omega)
  · have := hi.2.2.2.2.2.2.1 x (by omega)
    rw [d3 x (by omega), (r5 x hx).1]; exact c _ (by omega) (by omega)
  · rw [d8 x (by omega), (r5 x hx).2.1]; exact hi.2.2.2.1 x (by omega)
  · have hs := hi.2.2.2.2.2.2.1 x (by omega)
    have := (hn.1 x hx).2 i hi2
    rw [d1 _ (by omega), ((r5 x hx).2.2 i hi2).1]; exact c _ (by omega) (by omega)
  · have hs := hi.2.2.2.2.2.2.1 x (by omega)
    have := (hn.1 x hx).2 i hi2
    rw [d2 _ (by omega), ((r5 x hx).2.2 i hi2).2]; exact c _ (by omega) (by omega)
  · have h1 := hn.2.1 q hq
    have h2 := p2_mono (n := 9) (m := A 49 11) (by omega) (by omega) (by omega)
    have h3 : p2_n 9 = 512 := by decide
    rw [d5 q (by omega), (r6 q hq).1]; exact c _ (by omega) (by omega)
  · rw [d9 q (by omega), (r6 q hq).2]; exact hi.2.2.2.2.1 q (by omega)
  · have := hn.2.2.1 j hj
    rw [d6 j hj, r7 j hj]; exact c _ (by omega) (by omega)
  · have := hn.2.2.2.1 j hj
    rw [d7 j hj, r8 j hj]; exact c _ (by omega) (by omega)
  · rw [d10 p (by omega), r9 p hp]; exact hi.2.2.2.2.2.1 p (by omega)
  · have h1 := pr_cs_in (A := A) (x := (x : Int)) (y := (y : Int)) (w := (w : Int)) 9 0
    rw [d4 _ (by omega), r10 w x y hw hx hy]; exact c _ (by omega) (by omega)
theorem cp_si : ∀ d n : Nat, (d, n) ∈ [(1, 81), (2, 81), (3, 9), (4, 324), (5, 6), (6, 45), (7, 5)] → ∀ b : Nat, (b = 3 ∨ b = 18 ∨ b = 33) → (b + d, n) ∈ sw_T := by
  intro d n hq b hb
  have h : ([(1, 81), (2, 81), (3, 9), (4, 324), (5, 6), (6, 45), (7, 5)] : List (Nat × Nat)).all (fun q => [3, 18, 33].all (fun b => decide ((b + q.1, q.2) ∈ sw_T))) = true := by decide +kernel
  exact of_decide_eq_true (List.all_eq_true.mp (List.all_eq_true.mp h (d, n) hq) b (by rcases hb with rfl | rfl | rfl <;> decide))
theorem cp_sl : ∀ d n : Nat, (d, n) ∈ [(8, 9), (9, 6), (10, 5)] → ∀ b : Nat, (b = 3 ∨ b = 18 ∨ b = 33) → (b + d, n) ∈ sw_L := by
  intro d n hq b hb
  have h : ([(8, 9), (9, 6), (10, 5)] : List (Nat × Nat)).all (fun q => [3, 18, 33].all (fun b => decide ((b + q.1, q.2) ∈ sw_L))) = true := by decide +kernel
  exact of_decide_eq_true (List.all_eq_true.mp (List.all_eq_true.mp h (d, n) hq) b (by rcases hb with rfl | rfl | rfl <;> decide))
theorem cn_W {σ σ' A : ab_SG} {b : Nat} (hb : b = 3 ∨ b = 18 ∨ b = 33) (hi : RI A) (hn : nb_is A) (h : cn_is σ b A) (hv : vW σ' σ) : cn_is σ' b A :=
  cn_see hi hn h (fun j a c => hv.1 b j (Or.inl (cp_su hb a c))) (fun d n hq j hj => hv.1 (b + d) j (Or.inr (swr (cp_si d n hq b hb) hj))) (fun d n hq j hj => hv.2 (b + d) j (slr (cp_sl d n hq b hb) hj))
/-- one studio, told by both sides -/
def rc_is (σ : ab_SG) (b : Nat) (N W : Nat → Int) : Prop := ∃ A : ab_SG, RI A ∧ nb_is A ∧ cn_is σ b A ∧ sr_is N W A
/-- the reference's numbers, the first bid among them though no studio be laid -/
def mlN (σ : ab_SG) (j : Nat) : Int := if σ 93 22 = 0 ∧ j = 3 then 9 else σ 95 j
def ri_is (σ : ab_SG) (b q : Nat) : Prop := σ 102 q = 1 → rc_is σ b (fun j => σ 97 (474 * q + j)) (fun j => σ 101 (20 * q + j))
/-- one change: the row of the journal, the state ahead of it, the state behind it -/
def jt_is (m : Int) (R S T : Nat → Int) : Prop := ∃ p : Nat, p < 5 ∧ (p : Int) < m ∧ R 10 = (p : Int) ∧ (∀ x : Nat, x < 9 → R x = S (9 * p + x)) ∧ R 9 = S (45 + p) ∧ ∀ j : Nat, j < 50 → ¬ (9 * p ≤ j ∧ j < 9 * p + 9) → j ≠ 45 + p → S j = T j
def jS (σ : ab_SG) (n t j : Nat) : Int := if t = n then σ 95 (182 + j) else σ 98 (50 * t + j)
def jr_is (σ : ab_SG) : Prop := ∃ n : Nat, n ≤ 8 ∧ σ 85 1 = (n : Int) ∧ σ 93 24 = (n : Int) ∧ ∀ t : Nat, t < n → jt_is (σ 3 13) (fun i => σ 86 (11 * t + i)) (fun j => σ 98 (50 * t + j)) (jS σ n (t + 1))
def rx (σ : ab_SG) : Prop := rc_is σ 3 (mlN σ) (σ 99) ∧ ri_is σ 18 0 ∧ ri_is σ 33 1 ∧ jr_is σ
def RQ (σ : ab_SG) : Prop := RQ9 σ ∧ rx σ
theorem rc_cg {σ σ' : ab_SG} {b : Nat} {N N' W W' : Nat → Int} (e : cb_is σ' σ b) (e3 : ∀ j : Nat, j < 232 → j ≠ 4 → N' j = N j) (e4 : ∀ j : Nat, j < 20 → W' j = W j) (h : rc_is σ b N W) : rc_is σ' b N' W' := by
  obtain ⟨A, hi, hn, hc, hs⟩ := h
  exact ⟨A, hi, hn, cn_cg hi e hc, sr_cong hi e3 e4 hs⟩
theorem mlN_same {σ σ' : ab_SG} (h22 : σ' 93 22 = σ 93 22) (h : ∀ j : Nat, j < 232 → σ' 95 j = σ 95 j) (j : Nat) (hj : j < 232) : mlN σ' j = mlN σ j := by
  unfold mlN
  rw [h22, h j hj]
theorem mlN_ly {σ σ' : ab_SG} (h : ly_is σ σ') (h' : ∀ j : Nat, j < 232 → j ≠ 3 → σ' 95 j = σ 95 j) (j : Nat) (hj : j < 232) : mlN σ' j = mlN σ j := by
  obtain ⟨a, b, c⟩ := h
  unfold mlN
  rw [if_neg (fun z => by rw [a] at z; exact absurd z.1 (by decide))]
  by_cases e : j = 3
  · subst e
    by_cases z : σ 93 22 = 0
    · rw [if_pos ⟨z, rfl⟩]
      exact b z
    · rw [if_neg (fun y => z y.1)]
      exact c z
  · rw [if_neg (fun y => e y.2)]
    exact h' j hj e
theorem jt_cg {m m' : Int} {R R' S S' T T' : Nat → Int} (hm : m' = m) (hR : ∀ i : Nat, i < 11 → R' i = R i) (hS : ∀ j : Nat, j < 50 → S' j = S j) (hT : ∀ j : Nat, j < 50 → T' j = T j) (h : jt_is m R S T) : jt_is m' R' S' T' := by
  obtain ⟨p, hp, hq, a, b, c, d⟩ := h
  refine ⟨p, hp, by rw [hm]; exact hq, (hR 10 (by decide)).trans a, fun x hx => ?_, ?_, fun j hj h1 h2 => ?_⟩
  · rw [hR x (by omega), hS _ (by omega)]
    exact b x hx
  · rw [hR 9 (by decide), hS _ (by omega)]
    exact c
  · rw [hS j hj, hT j hj]
    exact d j hj h1 h2
theorem jr_cg {σ σ' : ab_SG} (e13 : σ' 3 13 = σ 3 13) (e85 : σ' 85 1 = σ 85 1) (e24 : σ' 93 24 = σ 93 24) (e86 : ∀ j : Nat, j < 88 → σ' 86 j = σ 86 j) (e98 : ∀ j : Nat, j < 400 → σ' 98 j = σ 98 j) (e95 : ∀ j : Nat, 182 ≤ j → j < 232 → σ' 95 j = σ 95 j) (h : jr_is σ) : jr_is σ' := by
  obtain ⟨n, hn, a, b, c⟩ := h
  refine ⟨n, hn, e85.trans a, e24.trans b, fun t ht => jt_cg e13 (fun i hi => e86 _ (by omega)) (fun j hj => e98 _ (by omega)) (fun j hj => ?_) (c t ht)⟩
  unfold jS
  by_cases z : t + 1 = n
  · rw [if_pos z, if_pos z]
    exact e95 _ (by omega) (by omega)
  · rw [if_neg z, if_neg z]
    exact e98 _ (by omega)
theorem jr_0 {σ : ab_SG} (h1 : σ 85 1 = 0) (h2 : σ 93 24 = 0) : jr_is σ := ⟨0, by decide, h1, h2, fun t ht => absurd ht (Nat.not_lt_zero t)⟩
theorem ri_cg {σ σ' : ab_SG} {b q : Nat} (hq : q < 2) (e : cb_is σ' σ b) (e2 : σ' 102 q = σ 102 q) (e7 : ∀ j : Nat, 474 * q ≤ j → j < 474 * q + 474 → σ' 97 j = σ 97 j) (e1 : ∀ j : Nat, 20 * q ≤ j → j < 20 * q + 20 → σ' 101 j = σ 101 j) (h : ri_is σ b q) : ri_is σ' b q := fun z =>
  rc_cg e (fun j hj _ => e7 _ (by omega) (by omega)) (fun j hj => e1 _ (by omega) (by omega)) (h (e2.symm.trans z))
theorem cb_M {M : ab_ML} {σ σ' : ab_SG} {b : Nat} (h : ab_okM M σ σ') (m : rc_b M b = true) : cb_is σ' σ b := ⟨fun j a c => mk_at h (rc_f m a c), fun q hq j _ => mk_at h (rc_r m hq j)⟩
/-- a list that leaves all of it; one that may lay a studio -/
def rx_c (M : ab_ML) : Bool := (rc_b M 3 && rc_b M 18 && rc_b M 33) && (M.all (fun q => !(q.1.beq 86)) && M.all (fun q => !(q.1.beq 98)) && M.all (fun q => !(q.1.beq 97)) && M.all (fun q => !(q.1.beq 101)) && M.all (fun q => !(q.1.beq 99)) && M.all (fun q => !(q.1.beq 102))) && (mk_b M 85 1 && mk_b M 93 24)
def rx_b (M : ab_ML) : Bool := rx_c M && (M.all (fun q => !(q.1.beq 95)) && mk_b M 93 22)
def rx_l (M : ab_ML) : Bool := rx_c M && M.all (fun q => !(q.1.beq 95) || q.2.beq 3)
theorem mk_95 {M : ab_ML} {σ σ' : ab_SG} (h : ab_okM M σ σ') (hb : M.all (fun q => !(q.1.beq 95) || q.2.beq 3) = true) {j : Nat} (hj : j < 232) (h3 : j ≠ 3) : σ' 95 j = σ 95 j := by
  refine h 95 j (fun q hq hh => ?_)
  have h1 := List.all_eq_true.mp hb q hq
  rw [hh.1, Nat.beq_refl, Bool.not_true, Bool.false_or] at h1
  have h2 := Nat.eq_of_beq_eq_true h1
  rcases hh.2 with z | z
  · exact h3 (z.symm.trans h2)
  · rw [h2] at z
    exact absurd z (by decide)
section
variable {M1 M2 : ab_ML} {σ σ1 σm σ2 σ5 : ab_SG}
theorem rx_rest (hc : cN σ) (h1 : ab_okM M1 σ σ1) (hv : vW σm σ1) (h2 : ab_okM M2 σm σ2) (hw : vW σ5 σ2) (m1 : rx_c M1 = true) (m2 : rx_c M2 = true) (h22 : ∀ j : Nat, j < 232 → mlN σ5 j = mlN σ j) (h95 : ∀ j : Nat, 182 ≤ j → j < 232 → σ5 95 j = σ 95 j) (h : rx σ) : rx σ5 := by
  unfold rx_c at m1 m2
  simp only [Bool.and_eq_true] at m1 m2
  obtain ⟨⟨⟨⟨a1, a2⟩, a3⟩, ⟨⟨⟨⟨⟨a4, a5⟩, a6⟩, a7⟩, a8⟩, a9⟩⟩, b1, b2⟩ := m1
  obtain ⟨⟨⟨⟨c1, c2⟩, c3⟩, ⟨⟨⟨⟨⟨c4, c5⟩, c6⟩, c7⟩, c8⟩, c9⟩⟩, d1, d2⟩ := m2
  obtain ⟨x1, x2, x3, x4⟩ := h
  have e3 : cb_is σ5 σ 3 := cb_stay (by decide) hc h1 hv h2 hw a1 c1
  have e97 : ∀ j : Nat, j < 948 → σ5 97 j = σ 97 j := fun j hj => xt_at hc h1 hv h2 hw (Or.inl (su97 hj)) (off_mk a6 j) (off_mk c6 j)
  have e101 : ∀ j : Nat, j < 40 → σ5 101 j = σ 101 j := fun j hj => xt_l hc h1 hv h2 hw (slr (by decide) hj) (off_mk a7 j) (off_mk c7 j)
  have e102 : ∀ j : Nat, j < 2 → σ5 102 j = σ 102 j := fun j hj => xt_at hc h1 hv h2 hw (Or.inl (su102 hj)) (off_mk a9 j) (off_mk c9 j)
  refine ⟨rc_cg e3 (fun j hj _ => h22 j hj) (fun j hj => xt_l hc h1 hv h2 hw (slr (by decide) hj) (off_mk a8 j) (off_mk c8 j)) x1, ri_cg (by decide) (cb_stay (by decide) hc h1 hv h2 hw a2 c2) (e102 0 (by decide)) (fun j _ hj => e97 j (by omega)) (fun j _ hj => e101 j (by omega)) x2, ri_cg (by decide) (cb_stay (by decide) hc h1 hv h2 hw a3 c3) (e102 1 (by decide)) (fun j _ hj => e97 j (by omega)) (fun j _ hj => e101 j (by omega)) x3, ?_⟩
  exact jr_cg (e3.1 13 (by decide) (by decide)) (xt_at hc h1 hv h2 hw (Or.inr sw85) b1 d1) (xt_at hc h1 hv h2 hw (Or.inr sw93) b2 d2) (fun j hj => xt_at hc h1 hv h2 hw (Or.inr (swr (by decide) hj)) (off_mk a4 j) (off_mk c4 j)) (fun j hj => xt_at hc h1 hv h2 hw (Or.inr (swr (by decide) hj)) (off_mk a5 j) (off_mk c5 j)) h95 x4
theorem rx_two (hc : cN σ) (h1 : ab_okM M1 σ σ1) (hv : vW σm σ1) (h2 : ab_okM M2 σm σ2) (hw : vW σ5 σ2) (m1 : rx_b M1 = true) (m2 : rx_b M2 = true) (h : rx σ) : rx σ5 := by
  unfold rx_b at m1 m2
  simp only [Bool.and_eq_true] at m1 m2
  have e95 : ∀ j : Nat, j < 232 → σ5 95 j = σ 95 j := fun j hj => xt_at hc h1 hv h2 hw (Or.inr (swr (by decide) hj)) (off_mk m1.2.1 j) (off_mk m2.2.1 j)
  exact rx_rest hc h1 hv h2 hw m1.1 m2.1 (fun j hj => mlN_same (xt_at hc h1 hv h2 hw (Or.inl (su93 (Or.inr rfl))) m1.2.2 m2.2.2) e95 j hj) (fun j _ hj => e95 j hj) h
theorem ly_W (hc : cN σ) (h1 : ab_okM M1 σ σ1) (hv : vW σm σ1) (m1 : (M1.all (fun q => !(q.1.beq 95)) && mk_b M1 93 22) = true) (hl : ly_is σm σ2) (hw : vW σ5 σ2) : ly_is σ σ5 := by
  rw [Bool.and_eq_true] at m1
  have e22 : σm 93 22 = σ 93 22 := xm_at hc h1 hv (Or.inl (su93 (Or.inr rfl))) m1.2
  have e3 : σm 95 3 = σ 95 3 := xm_at hc h1 hv (Or.inl (su95 (by decide))) (off_mk m1.1 3)
  obtain ⟨g1, g2, g3⟩ := hl
  refine ⟨?_, fun z => ?_, fun z => ?_⟩
  · rw [hw.1 93 22 (Or.inl (su93 (Or.inr rfl))), g1]
    exact fw_c_id (by decide) (by decide)
  · rw [hw.1 95 3 (Or.inl (su95 (by decide))), g2 (e22.trans z)]
    exact fw_c_id (by decide) (by decide)
  · rw [hw.1 95 3 (Or.inl (su95 (by decide))), g3 (by rw [e22]; exact z), e3]
    exact hc.1 95 3 (Or.inl (su95 (by decide)))
theorem rx_two_ly (hc : cN σ) (h1 : ab_okM M1 σ σ1) (hv : vW σm σ1) (h2 : ab_okM M2 σm σ2) (hw : vW σ5 σ2) (m1 : rx_b M1 = true) (m2 : rx_l M2 = true) (hl : ly_is σm σ2) (h : rx σ) : rx σ5 := by
  unfold rx_b at m1
  unfold rx_l at m2
  rw [Bool.and_eq_true] at m1 m2
  have e95 : ∀ j : Nat, j < 232 → j ≠ 3 → σ5 95 j = σ 95 j := fun j hj h3 => by
    rw [hw.1 95 j (Or.inr (swr (by decide) hj)), mk_95 h2 m2.2 hj h3, xm_at hc h1 hv (Or.inr (swr (by decide) hj)) (off_mk (by have := m1.2; rw [Bool.and_eq_true] at this; exact this.1) j)]
    exact hc.1 95 j (Or.inr (swr (by decide) hj))
  exact rx_rest hc h1 hv h2 hw m1.1 m2.1 (fun j hj => mlN_ly (ly_W hc h1 hv m1.2 hl hw) e95 j hj) (fun j a b => e95 j b (by omega)) h
end
theorem rx_9 {σ : ab_SG} (h : rx σ) : ∀ j : Nat, j < 45 → σ 9 j = σ 95 (182 + j) := fun j hj => by
  obtain ⟨⟨A, -, -, hc, hs⟩, -⟩ := h
  have a : σ 9 j = A 55 j := hc.2.2.2.2.2.2.1 j hj
  have b : mlN σ (182 + j) = A 55 j := hs.2.2.2.2.2.2.1 j hj
  unfold mlN at b
  rw [if_neg (fun z => by omega)] at b
  rw [a, b]
theorem rx_p {σ : ab_SG} (h : rx σ) : (0 ≤ σ 3 11 ∧ σ 3 11 ≤ 9) ∧ (0 ≤ σ 3 13 ∧ σ 3 13 ≤ 5) := by
  obtain ⟨⟨A, hi, -, hc, -⟩, -⟩ := h
  rw [hc.1, hc.2.2.1]
  exact ⟨hi.1, hi.2.2.1⟩
theorem rx_10 {σ : ab_SG} (h : rx σ) : ∀ j : Nat, (j : Int) < σ 3 13 → σ 10 j = σ 95 (227 + j) := fun j hj => by
  have h5 := (rx_p h).2.2
  obtain ⟨⟨A, hi, -, hc, hs⟩, -⟩ := h
  have a : σ 10 j = A 56 j := hc.2.2.2.2.2.2.2.1 j (by omega)
  have b : mlN σ (227 + j) = A 56 j := hs.2.2.2.2.2.2.2.1 j (by rw [← hc.2.2.1]; exact hj)
  unfold mlN at b
  rw [if_neg (fun z => by omega)] at b
  rw [a, b]
/-- ninths and daring as they now are -/
def mA (A : ab_SG) (X Y : Nat → Int) : ab_SG := fun k j => if k = 55 then X j else if k = 56 then Y j else A k j
theorem mA_ne {A : ab_SG} {X Y : Nat → Int} {k j : Nat} (h1 : k ≠ 55) (h2 : k ≠ 56) : mA A X Y k j = A k j := by
  unfold mA
  rw [if_neg h1, if_neg h2]
theorem mA_55 {A : ab_SG} {X Y : Nat → Int} {j : Nat} : mA A X Y 55 j = X j := if_pos rfl
theorem mA_56 {A : ab_SG} {X Y : Nat → Int} {j : Nat} : mA A X Y 56 j = Y j := by
  unfold mA
  rw [if_neg (by decide), if_pos rfl]
theorem rc_ch {σ σ' : ab_SG} (hok : ab_okR nn_T σ') (e1 : ∀ j : Nat, 11 ≤ j → j ≤ 14 → σ' 3 j = σ 3 j) (e2 : ∀ q ∈ cp_n, q.1 ≠ 6 → q.1 ≠ 7 → ∀ j : Nat, j < q.2 → σ' (3 + q.1) j = σ (3 + q.1) j) (e3 : ∀ j : Nat, j < 182 → σ' 95 j = σ 95 j) (e22 : σ' 93 22 = σ 93 22) (e4 : ∀ j : Nat, j < 20 → σ' 99 j = σ 99 j)
    (e5 : ∀ j : Nat, j < 45 → σ' 9 j = σ' 95 (182 + j)) (e6 : ∀ j : Nat, (j : Int) < σ 3 13 → σ' 10 j = σ' 95 (227 + j)) (e7 : ∀ j : Nat, σ 3 13 ≤ (j : Int) → j < 5 → σ' 10 j = σ 10 j) (h : rc_is σ 3 (mlN σ) (σ 99)) : rc_is σ' 3 (mlN σ') (σ' 99) := by
  obtain ⟨A, hi, hn, hc, hs⟩ := h
  have z : ∀ k j : Nat, k ≠ 55 → k ≠ 56 → mA A (σ' 9) (σ' 10) k j = A k j := fun k j a b => mA_ne a b
  have e13 : σ 3 13 = A 49 13 := hc.2.2.1
  have i1 := hi.1
  have i2 := hi.2.1
  have i3 := hi.2.2.1
  have i7 := hi.2.2.2.2.2.2.1
  have r9 : ∀ j : Nat, j < 50 → 0 ≤ σ' 95 (182 + j) ∧ σ' 95 (182 + j) ≤ 9 := fun j hj => ab_rdT_ok (r := (0, 9)) (k := 95) (a := 182) (b := 231) hok (by decide +kernel) (by omega) (by omega)
  refine ⟨mA A (σ' 9) (σ' 10), ?_, ?_, ?_, ?_⟩
  · obtain ⟨a1, a2, a3, a4, a5, a6, a7, a8⟩ := hi
    refine ⟨?_, ?_, ?_, fun j hj => ?_, fun j hj => ?_, fun j hj => ?_, fun j hj => ?_, ?_⟩
    · rw [z 49 11 (by decide) (by decide)]; exact a1
    · rw [z 49 12 (by decide) (by decide)]; exact a2
    · rw [z 49 13 (by decide) (by decide)]; exact a3
    · rw [z 57 j (by decide) (by decide)]; exact a4 j hj
    · rw [z 58 j (by decide) (by decide)]; exact a5 j hj
    · rw [z 59 j (by decide) (by decide)]; exact a6 j hj
    · rw [z 52 j (by decide) (by decide)]; exact a7 j hj
    · rw [z 48 4 (by decide) (by decide)]; exact a8
  · obtain ⟨b1, b2, b3, b4, b5⟩ := hn
    refine ⟨fun x hx => ?_, fun c hx => ?_, fun j hj => ?_, fun j hj => ?_, ?_⟩
    · rw [z 49 11 (by decide) (by decide)] at hx
      obtain ⟨u1, u2⟩ := b1 x hx
      refine ⟨by rw [z 52 x (by decide) (by decide)]; exact u1, fun i hi2 => ?_⟩
      rw [z 52 x (by decide) (by decide)] at hi2
      rw [z 50 _ (by decide) (by decide), z 51 _ (by decide) (by decide)]
      exact u2 i hi2
    · rw [z 49 12 (by decide) (by decide)] at hx
      rw [z 54 c (by decide) (by decide), z 49 11 (by decide) (by decide)]
      exact b2 c hx
    · rw [mA_55, e5 j hj]
      exact r9 j (by omega)
    · rw [mA_56]
      by_cases y : (j : Int) < σ 3 13
      · rw [e6 j y, show 227 + j = 182 + (45 + j) by omega]
        exact r9 (45 + j) (by omega)
      · rw [e7 j (by omega) hj, show σ 10 j = A 56 j from hc.2.2.2.2.2.2.2.1 j hj]
        exact b4 j hj
    · rw [z 49 14 (by decide) (by decide)]
      exact b5
  · obtain ⟨h1, h2, h3, h4, h5, h6, -, -, h9, h10⟩ := hc
    have f : ∀ d n : Nat, (d, n) ∈ cp_n → d ≠ 6 → d ≠ 7 → ∀ j : Nat, j < n → σ' (3 + d) j = σ (3 + d) j := fun d n hq a b j hj => e2 (d, n) hq a b j hj
    refine ⟨(e1 11 (by decide) (by decide)).trans (h1.trans (z 49 11 (by decide) (by decide)).symm), (e1 12 (by decide) (by decide)).trans (h2.trans (z 49 12 (by decide) (by decide)).symm), (e1 13 (by decide) (by decide)).trans (h3.trans (z 49 13 (by decide) (by decide)).symm), (e1 14 (by decide) (by decide)).trans (h4.trans (z 49 14 (by decide) (by decide)).symm), fun x hx => ?_, fun c hx => ?_, fun j _ => mA_55.symm, fun j _ => mA_56.symm, fun p hx => ?_, fun w x y hw hx hy => ?_⟩
    · rw [z 49 11 (by decide) (by decide)] at hx
      obtain ⟨a, c, d⟩ := h5 x hx
      have i7x := i7 x (by omega)
      refine ⟨(f 3 9 (by decide) (by decide) (by decide) x (by omega)).trans (a.trans (z 52 x (by decide) (by decide)).symm), (f 8 9 (by decide) (by decide) (by decide) x (by omega)).trans (c.trans (z 57 x (by decide) (by decide)).symm), fun i hx2 => ?_⟩
      rw [z 52 x (by decide) (by decide)] at hx2
      exact ⟨(f 1 81 (by decide) (by decide) (by decide) _ (by omega)).trans ((d i hx2).1.trans (z 50 _ (by decide) (by decide)).symm), (f 2 81 (by decide) (by decide) (by decide) _ (by omega)).trans ((d i hx2).2.trans (z 51 _ (by decide) (by decide)).symm)⟩
    · rw [z 49 12 (by decide) (by decide)] at hx
      exact ⟨(f 5 6 (by decide) (by decide) (by decide) c (by omega)).trans ((h6 c hx).1.trans (z 54 c (by decide) (by decide)).symm), (f 9 6 (by decide) (by decide) (by decide) c (by omega)).trans ((h6 c hx).2.trans (z 58 c (by decide) (by decide)).symm)⟩
    · rw [z 49 13 (by decide) (by decide)] at hx
      exact (f 10 5 (by decide) (by decide) (by decide) p (by omega)).trans ((h9 p hx).trans (z 59 p (by decide) (by decide)).symm)
    · rw [z 49 11 (by decide) (by decide)] at hx hy
      exact (f 4 324 (by decide) (by decide) (by decide) _ (by omega)).trans ((h10 w x y hw hx hy).trans (pr_cs_cg (z 49 11 (by decide) (by decide)).symm (fun j => (z 50 j (by decide) (by decide)).symm) (fun j => (z 51 j (by decide) (by decide)).symm) (fun j => (z 52 j (by decide) (by decide)).symm) 9 0))
  · obtain ⟨h1, h2, h3, h4, h5, h6, -, -, h9, h10, h11⟩ := hs
    have L : ∀ j : Nat, j < 182 → mlN σ' j = mlN σ j := fun j hj => by
      unfold mlN
      rw [e22, e3 j hj]
    refine ⟨(L 0 (by decide)).trans (h1.trans (z 49 11 (by decide) (by decide)).symm), (L 1 (by decide)).trans (h2.trans (z 49 12 (by decide) (by decide)).symm), (L 2 (by decide)).trans (h3.trans (z 49 13 (by decide) (by decide)).symm), (L 3 (by decide)).trans (h4.trans (z 49 14 (by decide) (by decide)).symm), fun x hx => ?_, fun c hx => ?_, fun j hj => ?_, fun j hj => ?_, fun j hx => ?_, fun j hx => ?_, fun j hx => ?_⟩
    · rw [z 49 11 (by decide) (by decide)] at hx
      obtain ⟨a, b⟩ := h5 x hx
      have i7x := i7 x (by omega)
      refine ⟨(L _ (by omega)).trans (a.trans (z 52 x (by decide) (by decide)).symm), fun i hx2 => ?_⟩
      rw [z 52 x (by decide) (by decide)] at hx2
      exact ⟨(L _ (by omega)).trans ((b i hx2).1.trans (z 50 _ (by decide) (by decide)).symm), (L _ (by omega)).trans ((b i hx2).2.trans (z 51 _ (by decide) (by decide)).symm)⟩
    · rw [z 49 12 (by decide) (by decide)] at hx
      exact (L _ (by omega)).trans ((h6 c hx).trans (z 54 c (by decide) (by decide)).symm)
    · rw [mA_55, e5 j hj]
      unfold mlN
      rw [if_neg (fun y => by omega)]
    · rw [z 49 13 (by decide) (by decide), ← e13] at hj
      rw [mA_56, e6 j hj]
      unfold mlN
      rw [if_neg (fun y => by omega)]
    · rw [z 49 11 (by decide) (by decide)] at hx
      rw [z 57 j (by decide) (by decide)]
      exact ⟨(h9 j hx).1, (e4 j (by omega)).trans (h9 j hx).2⟩
    · rw [z 49 12 (by decide) (by decide)] at hx
      rw [z 58 j (by decide) (by decide)]
      exact ⟨(h10 j hx).1, (e4 _ (by omega)).trans (h10 j hx).2⟩
    · rw [z 49 13 (by decide) (by decide)] at hx
      rw [z 59 j (by decide) (by decide)]
      exact ⟨(h11 j hx).1, (e4 _ (by omega)).trans (h11 j hx).2⟩
/-! bytes, a studio, images -/
theorem kM_feed {σ σ' : ab_SG} {a b c d e : Int} (h : k_feed a b c d e σ σ') : ab_okM ap_M σ σ' := by
  rcases h with ⟨-, h⟩ | ⟨-, g, -⟩
  · exact okM_of h
  · exact g
theorem kN_feed {σ σ' : ab_SG} {a b c d e : Int} (h : km_feed a b c d e σ σ') : ab_okM cm_M σ σ' := by
  rcases h with ⟨-, h⟩ | ⟨-, g, -⟩
  · rw [h]
    exact okM_sub okM_one (by decide)
  · exact g
theorem kM_end {σ σ' : ab_SG} {n : Int} (h : k_end n σ σ') : ab_okM [(1, 1)] σ σ' := by
  rcases h with ⟨-, h⟩ | ⟨-, h⟩
  · rw [h]
    exact okM_one
  · exact okM_of h
theorem kN_end {σ σ' : ab_SG} {n : Int} (h : km_end n σ σ') : ab_okM [(93, 0), (93, 2)] σ σ' := by
  rcases h with ⟨-, h⟩ | ⟨-, h⟩
  · rw [h]
    exact okM_two
  · rw [h]
    exact okM_sub okM_one (by decide)
section
variable {σ σ1 σm σ2 σ5 : ab_SG}
theorem RQ_feed {a b c d e : Int} (hc : cN σ) (hR : RQ σ) (h1 : k_feed a b c d e σ σ1) (hv : vW σm σ1) (h2 : km_feed a b c d e σm σ2) (hw : vW σ5 σ2) : RQ σ5 :=
  ⟨RQ9_tr (vw_W hw) (rr_feed (cn_N hc) hR.1 h1 (vw_W hv) h2), rx_two hc (kM_feed h1) hv (kN_feed h2) hw (by decide +kernel) (by decide +kernel) hR.2⟩
theorem RQ_end {n : Int} (hc : cN σ) (hR : RQ σ) (h1 : k_end n σ σ1) (hv : vW σm σ1) (h2 : km_end n σm σ2) (hw : vW σ5 σ2) : RQ σ5 :=
  ⟨RQ9_tr (vw_W hw) (rr_end (cn_N hc) hR.1 h1 (vw_W hv) h2), rx_two hc (kM_end h1) hv (kN_end h2) hw (by decide +kernel) (by decide +kernel) hR.2⟩
def ri_b (M : ab_ML) (b : Nat) : Bool := rc_b M b && (M.all (fun q => !(q.1.beq 97)) && M.all (fun q => !(q.1.beq 101)) && M.all (fun q => !(q.1.beq 102)))
theorem ri_two {M1 M2 : ab_ML} {b q : Nat} (hb : b = 3 ∨ b = 18 ∨ b = 33) (hq : q < 2) (hc : cN σ) (h1 : ab_okM M1 σ σ1) (hv : vW σm σ1) (h2 : ab_okM M2 σm σ2) (hw : vW σ5 σ2) (m1 : ri_b M1 b = true) (m2 : ri_b M2 b = true) (h : ri_is σ b q) : ri_is σ5 b q := by
  unfold ri_b at m1 m2
  simp only [Bool.and_eq_true] at m1 m2
  obtain ⟨a1, ⟨a2, a3⟩, a4⟩ := m1
  obtain ⟨b1, ⟨b2, b3⟩, b4⟩ := m2
  exact ri_cg hq (cb_stay hb hc h1 hv h2 hw a1 b1) (xt_at hc h1 hv h2 hw (Or.inl (su102 hq)) (off_mk a4 q) (off_mk b4 q)) (fun j _ hj => xt_at hc h1 hv h2 hw (Or.inl (su97 (by omega))) (off_mk a2 j) (off_mk b2 j)) (fun j _ hj => xt_l hc h1 hv h2 hw (slr (k := 101) (n := 40) (by decide) (by omega)) (off_mk a3 j) (off_mk b3 j)) h
theorem RQ_studio {A : ab_SG} (hc : cN σ) (hR : RQ σ) (h1 : k_studio A σ σ1) (hv : vW σm σ1) (h2 : km_studio A (tp_t σ) σm σ2) (hw : vW σ5 σ2) : RQ σ5 := by
  refine ⟨rr_studio (cn_N hc) hR.1 h1 (vw_W hv) h2 (vw_W hw), ?_⟩
  have e2 : σm 93 2 = σ 93 2 := mid_studio (cn_N hc) h1 (vw_W hv) (su93 (Or.inl rfl)) (by decide) (by decide)
  obtain ⟨⟨⟨r1, -⟩, -⟩, hx⟩ := hR
  obtain ⟨-, -, h1⟩ := h1
  unfold km_studio at h2
  rw [e2, ← r1] at h2
  rcases h1 with ⟨g1, g2, -⟩ | ⟨g1, g2⟩
  · rcases h2 with ⟨-, q2, -, q4⟩ | ⟨q1, -⟩
    · exact rx_two_ly hc g2 hv q2 hw (by decide +kernel) (by decide +kernel) q4 hx
    · exact absurd q1 g1
  · rcases h2 with ⟨q1, -⟩ | ⟨-, q2⟩
    · exact absurd g1 q1
    · obtain ⟨s1, -, -, i1, i2, s6, -, -, s9, -⟩ := g2
      obtain ⟨w1, -, -, w4, w5, -, -, w8, -⟩ := q2
      have z22 : σ5 93 22 = 1 := by
        rw [hw.1 93 22 (Or.inl (su93 (Or.inr rfl))), w4]
        exact fw_c_id (by decide) (by decide)
      refine ⟨⟨_, i1, i2, cn_W (by decide) i1 i2 (cn_cg i1 (cb_M w1 (by decide +kernel)) (cn_W (by decide) i1 i2 s6 hv)) hw, ?_⟩, ri_two (by decide) (by decide) hc s1 hv w1 hw (by decide +kernel) (by decide +kernel) hx.2.1, ri_two (by decide) (by decide) hc s1 hv w1 hw (by decide +kernel) (by decide +kernel) hx.2.2.1, jr_0 ?_ ?_⟩
      · refine sr_cong i1 (fun j hj _ => ?_) (fun j hj => hw.2 99 j (slr (by decide) hj)) (sr_can i1 i2 w8)
        show mlN σ5 j = fw_c (σ2 95 j)
        unfold mlN
        rw [if_neg (fun z => by rw [z22] at z; exact absurd z.1 (by decide))]
        exact hw.1 95 j (Or.inr (swr (by decide) hj))
      · rw [hw.1 85 1 (Or.inr sw85), mk_at w1 (by decide +kernel), hv.1 85 1 (Or.inr sw85), s9]
        exact (fw_c_c 0).trans fw_c0
      · rw [hw.1 93 24 (Or.inr sw93), w5]
        exact fw_c0
theorem rx_image0 {s1 : ab_SG} (hc : cN σ) (hR : RQ σ) (g2 : ab_okM (im_M 18) σ σ1) (g3 : cy_is σ σ1 3 18) (hv : vW σm σ1) (q1 : ab_okM lm_M σm s1) (q2 : ly_is σm s1) (q3 : kp_is s1 σ2 0) (hw : vW σ5 σ2) : rx σ5 := by
  obtain ⟨-, x1, x2, x3, x4⟩ := hR
  have w := km_two q1 q3.1
  have l2 : ly_is σm σ2 := kp_ly q2 q3
  have e22 : σm 93 22 = σ 93 22 := xm_at hc g2 hv (Or.inl (su93 (Or.inr rfl))) (by decide +kernel)
  have m95 : ∀ j : Nat, j < 232 → σm 95 j = σ 95 j := fun j hj => xm_at hc g2 hv (Or.inr (swr (by decide) hj)) (off_mk (by decide +kernel) j)
  have e95 : ∀ j : Nat, j < 232 → j ≠ 3 → σ5 95 j = σ 95 j := fun j hj h3 => by
    rw [hw.1 95 j (Or.inr (swr (by decide) hj)), mk_95 w (by decide +kernel) hj h3, m95 j hj]
    exact hc.1 95 j (Or.inr (swr (by decide) hj))
  have mlN5 : ∀ j : Nat, j < 232 → mlN σ5 j = mlN σ j := mlN_ly (ly_W hc g2 hv (by decide +kernel) l2 hw) e95
  have ls : ly_is σ s1 := ⟨q2.1, fun z => q2.2.1 (e22.trans z), fun z => (q2.2.2 (by rw [e22]; exact z)).trans (m95 3 (by decide))⟩
  have s95 : ∀ j : Nat, j < 232 → s1 95 j = mlN σ j := fun j hj => by
    have h9 := mlN_ly ls (fun j hj h3 => (mk_95 q1 (by decide +kernel) hj h3).trans (m95 j hj)) j hj
    rw [← h9]
    unfold mlN
    rw [if_neg (fun z => by rw [q2.1] at z; exact absurd z.1 (by decide))]
  obtain ⟨p1, p2, p3, p4, p5, p6, p7⟩ := q3
  have new : ri_is σ5 18 0 := fun _ => by
    obtain ⟨A, hi, hn, hc2, hs⟩ := x1
    refine ⟨A, hi, hn, cn_W (by decide) hi hn (cn_cg hi (cb_M w (by decide +kernel)) (cn_W (by decide) hi hn (cn_copy hi hn hc2 g3) hv)) hw, sr_cong hi (fun j hj h4 => ?_) (fun j hj => ?_) (sr_can hi hn hs)⟩
    · show σ5 97 (474 * 0 + j) = fw_c (mlN σ j)
      rw [hw.1 97 _ (Or.inl (su97 (by omega))), p2 j (by omega), fw_c_c, s95 j hj]
    · show σ5 101 (20 * 0 + j) = fw_d (σ 99 j)
      rw [hw.2 101 _ (slr (n := 40) (by decide) (by omega)), p3 j hj, fw_d_d, mk_row q1 (k := 99) (by decide +kernel), xm_l hc g2 hv (slr (k := 99) (n := 20) (by decide) hj) (off_mk (by decide +kernel) j)]
  have old : ri_is σ5 33 1 := by
    refine ri_cg (by decide) (cb_stay (by decide) hc g2 hv w hw (by decide +kernel) (by decide +kernel)) ?_ (fun j a c => ?_) (fun j a c => ?_) x3
    · rw [hw.1 102 1 (Or.inl (su102 (by decide))), p7 1 (by decide), mk_row q1 (k := 102) (by decide +kernel), xm_at hc g2 hv (Or.inl (su102 (by decide))) (off_mk (by decide +kernel) _)]
      exact hc.1 102 1 (Or.inl (su102 (by decide)))
    · rw [hw.1 97 j (Or.inl (su97 (by omega))), p4 j (by omega), mk_row q1 (k := 97) (by decide +kernel), xm_at hc g2 hv (Or.inl (su97 (by omega))) (off_mk (by decide +kernel) j)]
      exact hc.1 97 j (Or.inl (su97 (by omega)))
    · rw [hw.2 101 j (slr (n := 40) (by decide) (by omega)), p5 j (by omega), mk_row q1 (k := 101) (by decide +kernel), xm_l hc g2 hv (slr (k := 101) (n := 40) (by decide) (by omega)) (off_mk (by decide +kernel) j)]
      exact hc.2 101 j (slr (n := 40) (by decide) (by omega))
  refine ⟨rc_cg (cb_stay (by decide) hc g2 hv w hw (by decide +kernel) (by decide +kernel)) (fun j hj _ => mlN5 j hj) (fun j hj => xt_l hc g2 hv w hw (slr (by decide) hj) (off_mk (by decide +kernel) j) (off_mk (by decide +kernel) j)) x1, new, old, ?_⟩
  exact jr_cg (xt_at hc g2 hv w hw (Or.inl (su3 (by decide) (by decide))) (by decide +kernel) (by decide +kernel)) (xt_at hc g2 hv w hw (Or.inr sw85) (by decide +kernel) (by decide +kernel)) (xt_at hc g2 hv w hw (Or.inr sw93) (by decide +kernel) (by decide +kernel)) (fun j hj => xt_at hc g2 hv w hw (Or.inr (swr (by decide) hj)) (off_mk (by decide +kernel) j) (off_mk (by decide +kernel) j)) (fun j hj => xt_at hc g2 hv w hw (Or.inr (swr (by decide) hj)) (off_mk (by decide +kernel) j) (off_mk (by decide +kernel) j)) (fun j a hj => e95 j hj (by omega)) x4
theorem rx_back0 (hc : cN σ) (hR : RQ σ) (g1 : σ 102 0 = 1) (g2 : ab_okM re_M σ σ1) (g3 : cy_is σ σ1 18 3) (g4 : σ1 85 1 = 0) (hv : vW σm σ1) (q3 : tb_is σm σ2 0) (hw : vW σ5 σ2) : rx σ5 := by
  obtain ⟨⟨-, rB, -⟩, x1, x2, x3, x4⟩ := hR
  obtain ⟨w, p2, p3, p4⟩ := q3
  have e22 : σ5 93 22 = 1 := by
    rw [xt_at hc g2 hv w hw (Or.inl (su93 (Or.inr rfl))) (by decide +kernel) (by decide +kernel)]
    rcases rB.2.2.2 with ⟨a, -⟩ | ⟨-, -, a, b, -⟩
    · exact a
    · rw [a] at g1
      exact absurd g1 (by decide)
  refine ⟨?_, ri_two (by decide) (by decide) hc g2 hv w hw (by decide +kernel) (by decide +kernel) x2, ri_two (by decide) (by decide) hc g2 hv w hw (by decide +kernel) (by decide +kernel) x3, jr_0 ?_ ?_⟩
  · obtain ⟨A, hi, hn, hc2, hs⟩ := x2 g1
    refine ⟨A, hi, hn, cn_W (by decide) hi hn (cn_cg hi (cb_M w (by decide +kernel)) (cn_W (by decide) hi hn (cn_copy hi hn hc2 g3) hv)) hw, sr_cong hi (fun j hj h4 => ?_) (fun j hj => ?_) (sr_can hi hn hs)⟩
    · show mlN σ5 j = fw_c (σ 97 (474 * 0 + j))
      unfold mlN
      rw [if_neg (fun z => by rw [e22] at z; exact absurd z.1 (by decide)), hw.1 95 j (Or.inr (swr (by decide) hj)), p2 j (by omega), fw_c_c, xm_at hc g2 hv (Or.inl (su97 (by omega))) (off_mk (by decide +kernel) _)]
    · show σ5 99 j = fw_d (σ 101 (20 * 0 + j))
      rw [hw.2 99 j (slr (by decide) hj), p3 j hj, fw_d_d, xm_l hc g2 hv (slr (k := 101) (n := 40) (by decide) (by omega)) (off_mk (by decide +kernel) _)]
  · rw [hw.1 85 1 (Or.inr sw85), mk_at w (by decide +kernel), hv.1 85 1 (Or.inr sw85), g4]
    exact (fw_c_c 0).trans fw_c0
  · rw [hw.1 93 24 (Or.inr sw93), p4]
    exact fw_c0
theorem rx_image1 {s1 : ab_SG} (hc : cN σ) (hR : RQ σ) (g2 : ab_okM (im_M 33) σ σ1) (g3 : cy_is σ σ1 3 33) (hv : vW σm σ1) (q1 : ab_okM lm_M σm s1) (q2 : ly_is σm s1) (q3 : kp_is s1 σ2 1) (hw : vW σ5 σ2) : rx σ5 := by
  obtain ⟨-, x1, x2, x3, x4⟩ := hR
  have w := km_two q1 q3.1
  have l2 : ly_is σm σ2 := kp_ly q2 q3
  have e22 : σm 93 22 = σ 93 22 := xm_at hc g2 hv (Or.inl (su93 (Or.inr rfl))) (by decide +kernel)
  have m95 : ∀ j : Nat, j < 232 → σm 95 j = σ 95 j := fun j hj => xm_at hc g2 hv (Or.inr (swr (by decide) hj)) (off_mk (by decide +kernel) j)
  have e95 : ∀ j : Nat, j < 232 → j ≠ 3 → σ5 95 j = σ 95 j := fun j hj h3 => by
    rw [hw.1 95 j (Or.inr (swr (by decide) hj)), mk_95 w (by decide +kernel) hj h3, m95 j hj]
    exact hc.1 95 j (Or.inr (swr (by decide) hj))
  have mlN5 : ∀ j : Nat, j < 232 → mlN σ5 j = mlN σ j := mlN_ly (ly_W hc g2 hv (by decide +kernel) l2 hw) e95
  have ls : ly_is σ s1 := ⟨q2.1, fun z => q2.2.1 (e22.trans z), fun z => (q2.2.2 (by rw [e22]; exact z)).trans (m95 3 (by decide))⟩
  have s95 : ∀ j : Nat, j < 232 → s1 95 j = mlN σ j := fun j hj => by
    have h9 := mlN_ly ls (fun j hj h3 => (mk_95 q1 (by decide +kernel) hj h3).trans (m95 j hj)) j hj
    rw [← h9]
    unfold mlN
    rw [if_neg (fun z => by rw [q2.1] at z; exact absurd z.1 (by decide))]
  obtain ⟨p1, p2, p3, p4, p5, p6, p7⟩ := q3
  have new : ri_is σ5 33 1 := fun _ => by
    obtain ⟨A, hi, hn, hc2, hs⟩ := x1
    refine ⟨A, hi, hn, cn_W (by decide) hi hn (cn_cg hi (cb_M w (by decide +kernel)) (cn_W (by decide) hi hn (cn_copy hi hn hc2 g3) hv)) hw, sr_cong hi (fun j hj h4 => ?_) (fun j hj => ?_) (sr_can hi hn hs)⟩
    · show σ5 97 (474 * 1 + j) = fw_c (mlN σ j)
      rw [hw.1 97 _ (Or.inl (su97 (by omega))), p2 j (by omega), fw_c_c, s95 j hj]
    · show σ5 101 (20 * 1 + j) = fw_d (σ 99 j)
      rw [hw.2 101 _ (slr (n := 40) (by decide) (by omega)), p3 j hj, fw_d_d, mk_row q1 (k := 99) (by decide +kernel), xm_l hc g2 hv (slr (k := 99) (n := 20) (by decide) hj) (off_mk (by decide +kernel) j)]
  have old : ri_is σ5 18 0 := by
    refine ri_cg (by decide) (cb_stay (by decide) hc g2 hv w hw (by decide +kernel) (by decide +kernel)) ?_ (fun j a c => ?_) (fun j a c => ?_) x2
    · rw [hw.1 102 0 (Or.inl (su102 (by decide))), p7 0 (by decide), mk_row q1 (k := 102) (by decide +kernel), xm_at hc g2 hv (Or.inl (su102 (by decide))) (off_mk (by decide +kernel) _)]
      exact hc.1 102 0 (Or.inl (su102 (by decide)))
    · rw [hw.1 97 j (Or.inl (su97 (by omega))), p4 j (by omega), mk_row q1 (k := 97) (by decide +kernel), xm_at hc g2 hv (Or.inl (su97 (by omega))) (off_mk (by decide +kernel) j)]
      exact hc.1 97 j (Or.inl (su97 (by omega)))
    · rw [hw.2 101 j (slr (n := 40) (by decide) (by omega)), p5 j (by omega), mk_row q1 (k := 101) (by decide +kernel), xm_l hc g2 hv (slr (k := 101) (n := 40) (by decide) (by omega)) (off_mk (by decide +kernel) j)]
      exact hc.2 101 j (slr (n := 40) (by decide) (by omega))
  refine ⟨rc_cg (cb_stay (by decide) hc g2 hv w hw (by decide +kernel) (by decide +kernel)) (fun j hj _ => mlN5 j hj) (fun j hj => xt_l hc g2 hv w hw (slr (by decide) hj) (off_mk (by decide +kernel) j) (off_mk (by decide +kernel) j)) x1, old, new, ?_⟩
  exact jr_cg (xt_at hc g2 hv w hw (Or.inl (su3 (by decide) (by decide))) (by decide +kernel) (by decide +kernel)) (xt_at hc g2 hv w hw (Or.inr sw85) (by decide +kernel) (by decide +kernel)) (xt_at hc g2 hv w hw (Or.inr sw93) (by decide +kernel) (by decide +kernel)) (fun j hj => xt_at hc g2 hv w hw (Or.inr (swr (by decide) hj)) (off_mk (by decide +kernel) j) (off_mk (by decide +kernel) j)) (fun j hj => xt_at hc g2 hv w hw (Or.inr (swr (by decide) hj)) (off_mk (by decide +kernel) j) (off_mk (by decide +kernel) j)) (fun j a hj => e95 j hj (by omega)) x4
theorem rx_back1 (hc : cN σ) (hR : RQ σ) (g1 : σ 102 1 = 1) (g2 : ab_okM re_M σ σ1) (g3 : cy_is σ σ1 33 3) (g4 : σ1 85 1 = 0) (hv : vW σm σ1) (q3 : tb_is σm σ2 1) (hw : vW σ5 σ2) : rx σ5 := by
  obtain ⟨⟨-, rB, -⟩, x1, x2, x3, x4⟩ := hR
  obtain ⟨w, p2, p3, p4⟩ := q3
  have e22 : σ5 93 22 = 1 := by
    rw [xt_at hc g2 hv w hw (Or.inl (su93 (Or.inr rfl))) (by decide +kernel) (by decide +kernel)]
    rcases rB.2.2.2 with ⟨a, -⟩ | ⟨-, -, a, b, -⟩
    · exact a
    · rw [b] at g1
      exact absurd g1 (by decide)
  refine ⟨?_, ri_two (by decide) (by decide) hc g2 hv w hw (by decide +kernel) (by decide +kernel) x2, ri_two (by decide) (by decide) hc g2 hv w hw (by decide +kernel) (by decide +kernel) x3, jr_0 ?_ ?_⟩
  · obtain ⟨A, hi, hn, hc2, hs⟩ := x3 g1
    refine ⟨A, hi, hn, cn_W (by decide) hi hn (cn_cg hi (cb_M w (by decide +kernel)) (cn_W (by decide) hi hn (cn_copy hi hn hc2 g3) hv)) hw, sr_cong hi (fun j hj h4 => ?_) (fun j hj => ?_) (sr_can hi hn hs)⟩
    · show mlN σ5 j = fw_c (σ 97 (474 * 1 + j))
      unfold mlN
      rw [if_neg (fun z => by rw [e22] at z; exact absurd z.1 (by decide)), hw.1 95 j (Or.inr (swr (by decide) hj)), p2 j (by omega), fw_c_c, xm_at hc g2 hv (Or.inl (su97 (by omega))) (off_mk (by decide +kernel) _)]
    · show σ5 99 j = fw_d (σ 101 (20 * 1 + j))
      rw [hw.2 99 j (slr (by decide) hj), p3 j hj, fw_d_d, xm_l hc g2 hv (slr (k := 101) (n := 40) (by decide) (by omega)) (off_mk (by decide +kernel) _)]
  · rw [hw.1 85 1 (Or.inr sw85), mk_at w (by decide +kernel), hv.1 85 1 (Or.inr sw85), g4]
    exact (fw_c_c 0).trans fw_c0
  · rw [hw.1 93 24 (Or.inr sw93), p4]
    exact fw_c0
theorem RQ_image {k : Int} (hc : cN σ) (hR : RQ σ) (h1 : k_image k σ σ1) (hv : vW σm σ1) (h2 : km_image k σm σ2) (hw : vW σ5 σ2) : RQ σ5 := by
  refine ⟨RQ9_tr (vw_W hw) (rr_image (cn_N hc) hR.1 h1 (vw_W hv) h2), ?_⟩
  rcases h1 with ⟨a, b, h⟩ | ⟨a, g2, g3, g4⟩ | ⟨a, g2, g3, g4⟩
  · have s1 : ab_okM [] σ σ1 := okM_of h
    rcases h2 with ⟨-, -, q2, q3⟩ | ⟨q, t1, hq, hk, -⟩
    · exact rx_two_ly hc s1 hv q2 hw (by decide +kernel) (by decide +kernel) q3 hR.2
    · rcases q_of hq hk with ⟨z, -⟩ | ⟨z, -⟩
      · exact absurd z a
      · exact absurd z b
  · rcases h2 with ⟨z, -⟩ | ⟨q, t1, hq, hk, q1, q2, q3⟩
    · exact absurd a z
    · rcases q_of hq hk with ⟨-, rfl⟩ | ⟨z, -⟩
      · exact rx_image0 hc hR g2 g3 hv q1 q2 q3 hw
      · omega
  · rcases h2 with ⟨-, z, -⟩ | ⟨q, t1, hq, hk, q1, q2, q3⟩
    · exact absurd a z
    · rcases q_of hq hk with ⟨z, -⟩ | ⟨-, rfl⟩
      · omega
      · exact rx_image1 hc hR g2 g3 hv q1 q2 q3 hw
theorem RQ_restore {k : Int} (hc : cN σ) (hR : RQ σ) (h1 : k_restore k σ σ1) (hv : vW σm σ1) (h2 : km_restore k σm σ2) (hw : vW σ5 σ2) : RQ σ5 := by
  refine ⟨RQ9_tr (vw_W hw) (rr_restore (cn_N hc) hR.1 h1 (vw_W hv) h2), ?_⟩
  have e : ∀ r : Nat, r < 2 → σm 102 r = σ 102 r := fun r hr => mid_restore (cn_N hc) h1 (vw_W hv) (a := 102) (by decide) r (su102 hr)
  have f0 : σ 18 16 = σ 102 0 := hR.1.2.2.1.1
  have f1 : σ 33 16 = σ 102 1 := hR.1.2.2.2.1
  have e0 := e 0 (by decide)
  have e1 := e 1 (by decide)
  rcases h1 with ⟨a, h⟩ | ⟨a, b, g2, g3, g4⟩ | ⟨a, b, g2, g3, g4⟩
  · have s1 : ab_okM [] σ σ1 := okM_of h
    rcases h2 with ⟨-, h9⟩ | ⟨q, hq, hk, q1, -⟩
    · have s2 : ab_okM [(93, 0)] σm σ2 := by
        rw [h9]
        exact okM_one
      exact rx_two hc s1 hv s2 hw (by decide +kernel) (by decide +kernel) hR.2
    · rcases q_of hq hk with ⟨z, rfl⟩ | ⟨z, rfl⟩
      · rcases a with a | a | a <;> omega
      · rcases a with a | a | a <;> omega
  · rcases h2 with ⟨q1 | ⟨q, hq, hk, q1⟩, -⟩ | ⟨q, hq, hk, q1, q2⟩
    · omega
    · rcases q_of hq hk with ⟨z, rfl⟩ | ⟨z, rfl⟩ <;> omega
    · rcases q_of hq hk with ⟨z, rfl⟩ | ⟨z, rfl⟩
      · exact rx_back0 hc hR (by omega) g2 g3 g4 hv q2 hw
      · omega
  · rcases h2 with ⟨q1 | ⟨q, hq, hk, q1⟩, -⟩ | ⟨q, hq, hk, q1, q2⟩
    · omega
    · rcases q_of hq hk with ⟨z, rfl⟩ | ⟨z, rfl⟩ <;> omega
    · rcases q_of hq hk with ⟨z, rfl⟩ | ⟨z, rfl⟩
      · omega
      · exact rx_back1 hc hR (by omega) g2 g3 g4 hv q2 hw
/-- a question asked of both -/
theorem RQ_ask (hc : cN σ) (hR : RQ σ) (hv : vW σm σ) (h1 : ab_okM lm_M σm σ2) (h2 : ly_is σm σ2) (hw : vW σ5 σ2) : RQ σ5 :=
  ⟨RQ9_tr (vw_W hw) (rr_count (cn_N hc) hR.1 (vw_W hv) h1 h2).1, rx_two_ly hc (okM_self [] σ) hv h1 hw (by decide +kernel) (by decide +kernel) h2 hR.2⟩
end
/-! what teaches and takes back -/
def ch_M : ab_ML := [(85, 1), (86, 1000000), (9, 1000000), (10, 1000000)]
def ch_N : ab_ML := [(93, 0), (93, 24), (98, 1000000), (95, 1000000)]
/-- what a change of the ninths leaves: the tapes, the counts, what is kept -/
theorem ch_rest {M1 M2 : ab_ML} {σ σ1 σm σ2 σ5 : ab_SG} (hc : cN σ) (hR : RQ σ) (h1 : ab_okM M1 σ σ1) (hv : vW σm σ1) (h2 : ab_okM M2 σm σ2) (hw : vW σ5 σ2) (o95 : ∀ j : Nat, j < 182 → σ5 95 j = σ 95 j)
    (m1 : (ka_b M1 && kk_b M1 && M1.all (fun q => !(q.1.beq 3)) && mk_b M1 93 22 && ri_b M1 18 && ri_b M1 33) = true) (m2 : (ka_b M2 && kk_b M2 && M2.all (fun q => !(q.1.beq 3)) && mk_b M2 93 22 && ri_b M2 18 && ri_b M2 33) = true) : RQ9 σ5 ∧ ri_is σ5 18 0 ∧ ri_is σ5 33 1 := by
  simp only [Bool.and_eq_true] at m1 m2
  obtain ⟨⟨⟨⟨⟨a1, a2⟩, a3⟩, a4⟩, a5⟩, a6⟩ := m1
  obtain ⟨⟨⟨⟨⟨b1, b2⟩, b3⟩, b4⟩, b5⟩, b6⟩ := m2
  obtain ⟨⟨rA, rB, rK⟩, x1, x2, x3, x4⟩ := hR
  have c2 : M1.all (fun q => !(q.1.beq 102)) = true := kk_row a2 (by decide)
  have d2 : M2.all (fun q => !(q.1.beq 102)) = true := kk_row b2 (by decide)
  refine ⟨⟨ra_tr (vw_W hw) (ra_two (cn_N hc) h1 (vw_W hv) h2 a1 b1 rA), ?_, rk_tr (vw_W hw) (rk_two (cn_N hc) h1 (vw_W hv) h2 a2 b2 rK)⟩, ri_two (by decide) (by decide) hc h1 hv h2 hw a5 b5 x2, ri_two (by decide) (by decide) hc h1 hv h2 hw a6 b6 x3⟩
  exact rb_fr (fun j a b => xt_at hc h1 hv h2 hw (Or.inl (su3 a b)) (off_mk a3 j) (off_mk b3 j)) (fun j a => o95 j (by omega)) (xt_at hc h1 hv h2 hw (Or.inl (su93 (Or.inr rfl))) a4 b4) (fun j a => xt_at hc h1 hv h2 hw (Or.inl (su102 a)) (off_mk c2 j) (off_mk d2 j)) rB
theorem rq_ch {σ σ1 σm σ2 σ5 κ μ : ab_SG} {p : Nat} (hp : p < 5) (hpp : (p : Int) < σ 3 13) (hc : cN σ) (hR : RQ σ) (hok5 : ab_okR nn_T σ5)
    (k1 : kj_is σ κ p) (k2 : ab_okM [(9, 1000000), (10, 1000000)] κ σ1) (k3 : ∀ j : Nat, (j < 9 * p ∨ 9 * p + 9 ≤ j) → σ1 9 j = κ 9 j) (k4 : ∀ j : Nat, j ≠ p → σ1 10 j = κ 10 j) (hv : vW σm σ1)
    (s1 : sn_is (ab_ups σm 93 0 0) μ) (s2 : ab_okM [(95, 1000000)] μ σ2) (s3 : ∀ j : Nat, (j < 182 + 9 * p ∨ 182 + 9 * p + 9 ≤ j) → j ≠ 227 + p → σ2 95 j = μ 95 j) (hw : vW σ5 σ2)
    (E1 : ∀ y : Nat, y < 9 → fw_c (σ1 9 (9 * p + y)) = fw_c (σ2 95 (182 + 9 * p + y))) (E2 : fw_c (σ1 10 p) = fw_c (σ2 95 (227 + p))) : RQ σ5 := by
  have hx := hR.2
  have c9 := rx_9 hx
  have c10 := rx_10 hx
  have hP := rx_p hx
  have N1 : ab_okM ch_M σ σ1 := fw_okM_tr (okM_sub k1.1 (by decide)) k2 (by decide)
  have N2 : ab_okM ch_N σm σ2 := fw_okM_tr (fw_okM_tr (fw_okM_ups (fw_okM_refl _ _) (by decide)) s1.1 (by decide)) s2 (by decide)
  have m95 : ∀ j : Nat, j < 232 → σm 95 j = σ 95 j := fun j hj => xm_at hc N1 hv (Or.inr (swr (by decide) hj)) (off_mk (by decide) j)
  have t95 : ∀ j : Nat, j < 232 → μ 95 j = σ 95 j := fun j hj => by
    rw [mk_row s1.1 (k := 95) (by decide) j, ab_ups_ne (fun z => absurd z.1 (by decide)), m95 j hj]
  have v95 : ∀ j : Nat, j < 232 → σ5 95 j = fw_c (σ2 95 j) := fun j hj => hw.1 95 j (Or.inr (swr (by decide) hj))
  have q95 : ∀ j : Nat, j < 232 → fw_c (σ 95 j) = σ 95 j := fun j hj => hc.1 95 j (Or.inr (swr (by decide) hj))
  have o95 : ∀ j : Nat, j < 232 → (j < 182 + 9 * p ∨ 182 + 9 * p + 9 ≤ j) → j ≠ 227 + p → σ5 95 j = σ 95 j := fun j hj a b => by
    rw [v95 j hj, s3 j a b, t95 j hj, q95 j hj]
  have w9 : ∀ j : Nat, j < 45 → σ5 9 j = fw_c (σ1 9 j) := fun j hj => by
    rw [hw.1 9 j (Or.inr (swr (by decide) hj)), mk_row N2 (k := 9) (by decide), hv.1 9 j (Or.inr (swr (by decide) hj)), fw_c_c]
  have w10 : ∀ j : Nat, j < 5 → σ5 10 j = fw_c (σ1 10 j) := fun j hj => by
    rw [hw.1 10 j (Or.inr (swr (by decide) hj)), mk_row N2 (k := 10) (by decide), hv.1 10 j (Or.inr (swr (by decide) hj)), fw_c_c]
  have q9 : ∀ j : Nat, j < 45 → fw_c (σ 9 j) = σ 9 j := fun j hj => hc.1 9 j (Or.inr (swr (by decide) hj))
  have q10 : ∀ j : Nat, j < 5 → fw_c (σ 10 j) = σ 10 j := fun j hj => hc.1 10 j (Or.inr (swr (by decide) hj))
  have n9 : ∀ j : Nat, j < 45 → σ5 9 j = σ5 95 (182 + j) := fun j hj => by
    by_cases z : 9 * p ≤ j ∧ j < 9 * p + 9
    · obtain ⟨y, rfl⟩ : ∃ y : Nat, j = 9 * p + y := ⟨j - 9 * p, by omega⟩
      rw [w9 _ hj, v95 _ (by omega), show 182 + (9 * p + y) = 182 + 9 * p + y by omega]
      exact E1 y (by omega)
    · rw [w9 _ hj, k3 j (by omega), mk_row k1.1 (k := 9) (by decide) j, o95 (182 + j) (by omega) (by omega) (by omega), ← c9 j hj, q9 j hj]
  have n10 : ∀ j : Nat, (j : Int) < σ 3 13 → σ5 10 j = σ5 95 (227 + j) := fun j hj => by
    have h5 : j < 5 := by omega
    by_cases z : j = p
    · subst z
      rw [w10 _ h5, v95 _ (by omega)]
      exact E2
    · rw [w10 _ h5, k4 j z, mk_row k1.1 (k := 10) (by decide) j, o95 (227 + j) (by omega) (by omega) (by omega), ← c10 j hj, q10 j h5]
  have l10 : ∀ j : Nat, σ 3 13 ≤ (j : Int) → j < 5 → σ5 10 j = σ 10 j := fun j hj h5 => by
    rw [w10 _ h5, k4 j (by omega), mk_row k1.1 (k := 10) (by decide) j, q10 j h5]
  obtain ⟨z9, z18, z33⟩ := ch_rest hc hR N1 hv N2 hw (fun j hj => o95 j (by omega) (by omega) (by omega)) (by decide +kernel) (by decide +kernel)
  have e3 : ∀ j : Nat, 11 ≤ j → j ≤ 14 → σ5 3 j = σ 3 j := fun j a b => xt_at hc N1 hv N2 hw (Or.inl (su3 a b)) (off_mk (by decide) j) (off_mk (by decide) j)
  refine ⟨z9, rc_ch hok5 e3 (fun q hq a b j hj => ?_) (fun j hj => o95 j (by omega) (by omega) (by omega)) (xt_at hc N1 hv N2 hw (Or.inl (su93 (Or.inr rfl))) (by decide) (by decide)) (fun j hj => xt_l hc N1 hv N2 hw (slr (by decide) hj) (off_mk (by decide) j) (off_mk (by decide) j)) n9 n10 l10 hx.1, z18, z33, ?_⟩
  · have o1 : ∀ q ∈ cp_n, q.1 ≠ 6 → q.1 ≠ 7 → ch_M.all (fun z => !(z.1.beq (3 + q.1))) = true ∧ ch_N.all (fun z => !(z.1.beq (3 + q.1))) = true := by decide +kernel
    have o2 := o1 q hq a b
    rcases cp_sw q hq 3 (by decide) with z | z
    · exact xt_at hc N1 hv N2 hw (Or.inr (swr z hj)) (off_mk o2.1 j) (off_mk o2.2 j)
    · exact xt_l hc N1 hv N2 hw (slr z hj) (off_mk o2.1 j) (off_mk o2.2 j)
  · -- the journal
    obtain ⟨n, hn, j85, j24, hj⟩ := hx.2.2.2
    have v86 : ∀ j : Nat, j < 88 → σ5 86 j = fw_c (κ 86 j) := fun j hj => by
      rw [hw.1 86 j (Or.inr (swr (by decide) hj)), mk_row N2 (k := 86) (by decide), hv.1 86 j (Or.inr (swr (by decide) hj)), fw_c_c, mk_row k2 (k := 86) (by decide)]
    have v98 : ∀ j : Nat, j < 400 → σ5 98 j = fw_c (μ 98 j) := fun j hj => by
      rw [hw.1 98 j (Or.inr (swr (by decide) hj)), mk_row s2 (k := 98) (by decide)]
    have v85 : σ5 85 1 = fw_c (κ 85 1) := by
      rw [hw.1 85 1 (Or.inr sw85), mk_at N2 (by decide), hv.1 85 1 (Or.inr sw85), fw_c_c, mk_at k2 (by decide)]
    have v24 : σ5 93 24 = fw_c (μ 93 24) := by
      rw [hw.1 93 24 (Or.inr sw93), mk_at s2 (by decide)]
    have q86 : ∀ j : Nat, j < 88 → fw_c (σ 86 j) = σ 86 j := fun j hj => hc.1 86 j (Or.inr (swr (by decide) hj))
    have q98 : ∀ j : Nat, j < 400 → fw_c (σ 98 j) = σ 98 j := fun j hj => hc.1 98 j (Or.inr (swr (by decide) hj))
    have m98 : ∀ j : Nat, j < 400 → ab_ups σm 93 0 0 98 j = σ 98 j := fun j hj => by
      rw [ab_ups_ne (fun z => absurd z.1 (by decide))]
      exact xm_at hc N1 hv (Or.inr (swr (by decide) hj)) (off_mk (by decide) j)
    have m24 : ab_ups σm 93 0 0 93 24 = (n : Int) := by
      rw [ab_ups_ne (fun z => absurd z.2 (by decide)), xm_at hc N1 hv (Or.inr sw93) (by decide), j24]
    have u95 : ∀ j : Nat, j < 232 → ab_ups σm 93 0 0 95 j = σ 95 j := fun j hj => by
      rw [ab_ups_ne (fun z => absurd z.1 (by decide)), m95 j hj]
    have e13 : σ5 3 13 = σ 3 13 := e3 13 (by decide) (by decide)
    have last : ∀ m : Nat, m < 8 → kj_row σ κ m p → (∀ j : Nat, j < 50 → μ 98 (50 * m + j) = fw_c (ab_ups σm 93 0 0 95 (182 + j))) → (∀ j : Nat, j < 50 → σ5 98 (50 * m + j) = σ 95 (182 + j)) ∧ jt_is (σ5 3 13) (fun i => σ5 86 (11 * m + i)) (fun j => σ5 98 (50 * m + j)) (jS σ5 (m + 1) (m + 1)) := by
      intro m hm kr sr
      have a98 : ∀ j : Nat, j < 50 → σ5 98 (50 * m + j) = σ 95 (182 + j) := fun j hj => by
        rw [v98 _ (by omega), sr j hj, fw_c_c, u95 _ (by omega), q95 _ (by omega)]
      refine ⟨a98, p, hp, by rw [e13]; exact hpp, ?_, fun x hx => ?_, ?_, fun j hj b1 b2 => ?_⟩
      · show σ5 86 (11 * m + 10) = (p : Int)
        rw [v86 _ (by omega), kr.2.2]
        exact fw_c_id (by omega) (by omega)
      · show σ5 86 (11 * m + x) = σ5 98 (50 * m + (9 * p + x))
        rw [v86 _ (by omega), kr.1 x hx, fw_c_c, q9 _ (by omega), a98 _ (by omega)]
        exact c9 _ (by omega)
      · show σ5 86 (11 * m + 9) = σ5 98 (50 * m + (45 + p))
        rw [v86 _ (by omega), kr.2.1, fw_c_c, q10 p hp, a98 _ (by omega), c10 p hpp, show 182 + (45 + p) = 227 + p by omega]
      · show σ5 98 (50 * m + j) = jS σ5 (m + 1) (m + 1) j
        unfold jS
        rw [if_pos rfl, a98 j hj]
        exact (o95 (182 + j) (by omega) (by omega) (by omega)).symm
    by_cases h8 : n < 8
    · obtain ⟨r1, r2, r3⟩ := k1.2.1 n j85 h8
      obtain ⟨y1, y2, y3⟩ := s1.2.1 n m24 h8
      obtain ⟨a98, lt⟩ := last n h8 r3 y3
      refine ⟨n + 1, by omega, ?_, ?_, fun t ht => ?_⟩
      · rw [v85, r1]
        exact (fw_c_id (by omega) (by omega)).trans (by omega)
      · rw [v24, y1]
        exact (fw_c_id (by omega) (by omega)).trans (by omega)
      · by_cases htn : t = n
        · subst htn
          exact lt
        · have b98 : ∀ j : Nat, j < 50 * n → σ5 98 j = σ 98 j := fun j hj => by
            rw [v98 _ (by omega), y2 j hj, m98 _ (by omega), q98 _ (by omega)]
          refine jt_cg e13 (fun i hi => ?_) (fun j hj2 => b98 _ (by omega)) (fun j hj2 => ?_) (hj t (by omega))
          · show σ5 86 (11 * t + i) = σ 86 (11 * t + i)
            rw [v86 _ (by omega), r2 _ (by omega), q86 _ (by omega)]
          · show jS σ5 (n + 1) (t + 1) j = jS σ n (t + 1) j
            unfold jS
            rw [if_neg (by omega)]
            by_cases h9 : t + 1 = n
            · rw [if_pos h9, h9]
              exact a98 j hj2
            · rw [if_neg h9]
              exact b98 _ (by omega)
    · have hn8 : n = 8 := by omega
      subst hn8
      obtain ⟨r1, r2, r3⟩ := k1.2.2 j85
      obtain ⟨y1, y2, y3⟩ := s1.2.2 m24
      obtain ⟨a98, lt⟩ := last 7 (by decide) r3 y3
      refine ⟨8, Nat.le_refl 8, ?_, ?_, fun t ht => ?_⟩
      · rw [v85, r1]
        exact fw_c_id (by decide) (by decide)
      · rw [v24, y1]
        exact fw_c_id (by decide) (by decide)
      · by_cases htn : t = 7
        · subst htn
          exact lt
        · have b98 : ∀ j : Nat, j < 350 → σ5 98 j = σ 98 (j + 50) := fun j hj => by
            rw [v98 _ (by omega), y2 j hj, fw_c_c, m98 _ (by omega), q98 _ (by omega)]
          refine jt_cg e13 (fun i hi => ?_) (fun j hj2 => ?_) (fun j hj2 => ?_) (hj (t + 1) (by omega))
          · show σ5 86 (11 * t + i) = σ 86 (11 * (t + 1) + i)
            rw [v86 _ (by omega), r2 _ (by omega), fw_c_c, show 11 * t + i + 11 = 11 * (t + 1) + i by omega, q86 _ (by omega)]
          · show σ5 98 (50 * t + j) = σ 98 (50 * (t + 1) + j)
            rw [b98 _ (by omega), show 50 * t + j + 50 = 50 * (t + 1) + j by omega]
          · show jS σ5 8 (t + 1) j = jS σ 8 (t + 1 + 1) j
            unfold jS
            rw [if_neg (by omega)]
            by_cases h9 : t + 1 = 7
            · rw [if_pos (by omega), h9]
              exact a98 j hj2
            · rw [if_neg (by omega), b98 _ (by omega), show 50 * (t + 1) + j + 50 = 50 * (t + 1 + 1) + j by omega]
/-! taught, dared, copied, taken back -/
theorem rx_cf {σ : ab_SG} (h : rx σ) : c_fw σ := by
  have hP := rx_p h
  obtain ⟨-, -, -, n, hn, j85, -⟩ := h
  exact ⟨hP.1, hP.2, by omega, by omega⟩
/-- what no change of the class's touches -/
theorem rx_mf {M1 : ab_ML} {σ σ1 σm : ab_SG} (hc : cN σ) (hR : RQ σ) (h1 : ab_okM M1 σ σ1) (hv : vW σm σ1) (m1 : (M1.all (fun q => !(q.1.beq 95)) && mk_b M1 93 24) = true) : m_fw σm ∧ (∀ j : Nat, j < 232 → σm 95 j = σ 95 j) ∧ (∀ p : Int, m_pe σm p = c_pe σ p) ∧ ∀ x : Int, m_tu σm x = c_tu σ x := by
  rw [Bool.and_eq_true] at m1
  have m95 : ∀ j : Nat, j < 232 → σm 95 j = σ 95 j := fun j hj => xm_at hc h1 hv (Or.inr (swr (by decide) hj)) (off_mk m1.1 j)
  have m24 : σm 93 24 = σ 93 24 := xm_at hc h1 hv (Or.inr sw93) m1.2
  have hP := rx_p hR.2
  obtain ⟨⟨-, ⟨b1, -, b3, -⟩, -⟩, -, -, -, n, hn, -, j24, -⟩ := hR
  have f0 : σm 95 0 = σ 3 11 := (m95 0 (by decide)).trans b1.symm
  have f2 : σm 95 2 = σ 3 13 := (m95 2 (by decide)).trans b3.symm
  refine ⟨⟨by rw [f0]; exact hP.1, by rw [f2]; exact hP.2, by omega, by omega⟩, m95, fun p => ?_, fun x => ?_⟩
  · unfold m_pe c_pe
    rw [f2]
  · unfold m_tu c_tu
    rw [f0]
theorem pe_b {σ : ab_SG} {p : Int} {p' : Nat} (h : rx σ) (hp : fw_c p = p) (e : p = (p' : Int)) (hb : c_pe σ p = true) : (p' : Int) < σ 3 13 ∧ p' < 5 := by
  have hP := rx_p h
  have t := c_pe_t hb
  rw [hp, fw_c_id (x := σ 3 13) (by omega) (by omega)] at t
  exact ⟨by omega, by omega⟩
theorem tu_b {σ : ab_SG} {x : Int} {x' : Nat} (h : rx σ) (hx : fw_c x = x) (e : x = (x' : Int)) (hb : c_tu σ x = true) : (x' : Int) < σ 3 11 ∧ x' < 9 := by
  have hP := rx_p h
  have t := c_tu_t hb
  rw [hx, fw_c_id (x := σ 3 11) (by omega) (by omega)] at t
  exact ⟨by omega, by omega⟩
def k_teach (p x k v : Int) (σ σ' : ab_SG) : Prop := (v = 0 ∧ σ' = σ ∧ ∀ p' x' : Nat, p = (p' : Int) → x = (x' : Int) → c_pe σ p = true → c_tu σ x = true → (0 ≤ k ∧ k ≤ 9) → fw_c (σ 9 (9 * p' + x')) = k) ∨
  (v = 1 ∧ ∃ p' x' : Nat, p = (p' : Int) ∧ x = (x' : Int) ∧ c_pe σ p = true ∧ c_tu σ x = true ∧ (0 ≤ k ∧ k ≤ 9) ∧ fw_c (σ 9 (9 * p' + x')) ≠ k ∧ ce_is σ σ' p' 9 (9 * p' + x') k)
def km_teach (p x k v : Int) (σ σ' : ab_SG) : Prop := (v = 0 ∧ σ' = ab_ups σ 93 0 0 ∧ ∀ p' x' : Nat, p = (p' : Int) → x = (x' : Int) → m_pe σ p = true → m_tu σ x = true → (0 ≤ k ∧ k ≤ 9) → fw_c (σ 95 (182 + 9 * p' + x')) = k) ∨
  (v = 1 ∧ ∃ p' x' : Nat, p = (p' : Int) ∧ x = (x' : Int) ∧ m_pe σ p = true ∧ m_tu σ x = true ∧ (0 ≤ k ∧ k ≤ 9) ∧ fw_c (σ 95 (182 + 9 * p' + x')) ≠ k ∧ te_is σ σ' (182 + 9 * p' + x') k)
theorem sk_teach {σ : ab_SG} {p x k : Int} (hp : fw_c p = p) (hx : fw_c x = x) (hk : fw_c k = k) (hf : c_fw σ) : sp_teach [(2, 0, 0), (0, 0, p), (0, 0, x), (0, 0, k)] σ (fun rv σ' => ∃ v : Int, rv = some (0, 0, v) ∧ k_teach p x k v σ σ') :=
  ⟨p, x, k, rfl, ⟨hp, hx, hk⟩, hf, fun hn => ⟨0, rfl, Or.inl ⟨rfl, rfl, fun _ _ _ _ a b c => absurd ⟨a, b, c⟩ hn⟩⟩, fun p' x' e1 e2 a b c => ⟨fun z => ⟨0, rfl, Or.inl ⟨rfl, rfl, fun p2 x2 f1 f2 _ _ _ => by
    have g1 : p2 = p' := by omega
    have g2 : x2 = x' := by omega
    rw [g1, g2]
    exact z⟩⟩, fun z σ' hs => ⟨1, rfl, Or.inr ⟨rfl, p', x', e1, e2, a, b, c, z, hs⟩⟩⟩⟩
theorem sm_teach {σ : ab_SG} {p x k : Int} (hp : fw_c p = p) (hx : fw_c x = x) (hk : fw_c k = k) (hf : m_fw σ) : sp_m_teach [(2, 93, 0), (0, 0, p), (0, 0, x), (0, 0, k)] σ (fun rv σ' => ∃ v : Int, rv = some (0, 0, v) ∧ km_teach p x k v σ σ') :=
  ⟨p, x, k, rfl, ⟨hp, hx, hk⟩, hf, fun hn => ⟨0, rfl, Or.inl ⟨rfl, rfl, fun _ _ _ _ a b c => absurd ⟨a, b, c⟩ hn⟩⟩, fun p' x' e1 e2 a b c => ⟨fun z => ⟨0, rfl, Or.inl ⟨rfl, rfl, fun p2 x2 f1 f2 _ _ _ => by
    have g1 : p2 = p' := by omega
    have g2 : x2 = x' := by omega
    rw [g1, g2]
    exact z⟩⟩, fun z σ' hs => ⟨1, rfl, Or.inr ⟨rfl, p', x', e1, e2, a, b, c, z, hs⟩⟩⟩⟩
def k_dares (p k v : Int) (σ σ' : ab_SG) : Prop := (v = 0 ∧ σ' = σ ∧ ∀ p' : Nat, p = (p' : Int) → c_pe σ p = true → (0 ≤ k ∧ k ≤ 9) → fw_c (σ 10 p') = k) ∨
  (v = 1 ∧ ∃ p' : Nat, p = (p' : Int) ∧ c_pe σ p = true ∧ (0 ≤ k ∧ k ≤ 9) ∧ fw_c (σ 10 p') ≠ k ∧ ce_is σ σ' p' 10 p' k)
def km_dares (p k v : Int) (σ σ' : ab_SG) : Prop := (v = 0 ∧ σ' = ab_ups σ 93 0 0 ∧ ∀ p' : Nat, p = (p' : Int) → m_pe σ p = true → (0 ≤ k ∧ k ≤ 9) → fw_c (σ 95 (227 + p')) = k) ∨
  (v = 1 ∧ ∃ p' : Nat, p = (p' : Int) ∧ m_pe σ p = true ∧ (0 ≤ k ∧ k ≤ 9) ∧ fw_c (σ 95 (227 + p')) ≠ k ∧ te_is σ σ' (227 + p') k)
theorem sk_dares {σ : ab_SG} {p k : Int} (hp : fw_c p = p) (hk : fw_c k = k) (hf : c_fw σ) : sp_dares [(2, 0, 0), (0, 0, p), (0, 0, k)] σ (fun rv σ' => ∃ v : Int, rv = some (0, 0, v) ∧ k_dares p k v σ σ') :=
  ⟨p, k, rfl, ⟨hp, hk⟩, hf, fun hn => ⟨0, rfl, Or.inl ⟨rfl, rfl, fun _ _ a c => absurd ⟨a, c⟩ hn⟩⟩, fun p' e1 a c => ⟨fun z => ⟨0, rfl, Or.inl ⟨rfl, rfl, fun p2 f1 _ _ => by
    have g1 : p2 = p' := by omega
    rw [g1]
    exact z⟩⟩, fun z σ' hs => ⟨1, rfl, Or.inr ⟨rfl, p', e1, a, c, z, hs⟩⟩⟩⟩
theorem sm_dares {σ : ab_SG} {p k : Int} (hp : fw_c p = p) (hk : fw_c k = k) (hf : m_fw σ) : sp_m_dares [(2, 93, 0), (0, 0, p), (0, 0, k)] σ (fun rv σ' => ∃ v : Int, rv = some (0, 0, v) ∧ km_dares p k v σ σ') :=
  ⟨p, k, rfl, ⟨hp, hk⟩, hf, fun hn => ⟨0, rfl, Or.inl ⟨rfl, rfl, fun _ _ a c => absurd ⟨a, c⟩ hn⟩⟩, fun p' e1 a c => ⟨fun z => ⟨0, rfl, Or.inl ⟨rfl, rfl, fun p2 f1 _ _ => by
    have g1 : p2 = p' := by omega
    rw [g1]
    exact z⟩⟩, fun z σ' hs => ⟨1, rfl, Or.inr ⟨rfl, p', e1, a, c, z, hs⟩⟩⟩⟩
def k_copies (p q v : Int) (σ σ' : ab_SG) : Prop := (v = -1 ∧ σ' = σ ∧ ¬ (c_pe σ p = true ∧ c_pe σ q = true)) ∨
  (∃ p' q' N : Nat, p = (p' : Int) ∧ q = (q' : Int) ∧ c_pe σ p = true ∧ c_pe σ q = true ∧ σ 3 11 = (N : Int) ∧ v = cd_n (σ 9) (9 * p') (9 * q') N ∧ ((v = 0 ∧ σ' = σ) ∨ (v ≠ 0 ∧ qc_is σ σ' p' q' N)))
def km_copies (p q v : Int) (σ σ' : ab_SG) : Prop := (v = -1 ∧ σ' = ab_ups σ 93 0 0 ∧ ¬ (m_pe σ p = true ∧ m_pe σ q = true)) ∨
  (∃ p' q' N : Nat, p = (p' : Int) ∧ q = (q' : Int) ∧ m_pe σ p = true ∧ m_pe σ q = true ∧ σ 95 0 = (N : Int) ∧ v = cd_n (σ 95) (182 + 9 * p') (182 + 9 * q') N ∧ ((v = 0 ∧ σ' = ab_ups σ 93 0 0) ∨ (v ≠ 0 ∧ qm_is σ σ' p' q' N)))
theorem sk_copies {σ : ab_SG} {p q : Int} (hp : fw_c p = p) (hq : fw_c q = q) (hf : c_fw σ) : sp_copies [(2, 0, 0), (0, 0, p), (0, 0, q)] σ (fun rv σ' => ∃ v : Int, rv = some (0, 0, v) ∧ k_copies p q v σ σ') :=
  ⟨p, q, rfl, ⟨hp, hq⟩, hf, fun hn => ⟨-1, rfl, Or.inl ⟨rfl, rfl, hn⟩⟩, fun p' q' N e1 e2 a b c => ⟨fun z => ⟨0, rfl, Or.inr ⟨p', q', N, e1, e2, a, b, c, z.symm, Or.inl ⟨rfl, rfl⟩⟩⟩, fun z σ' hs => ⟨_, rfl, Or.inr ⟨p', q', N, e1, e2, a, b, c, rfl, Or.inr ⟨z, hs⟩⟩⟩⟩⟩
theorem sm_copies {σ : ab_SG} {p q : Int} (hp : fw_c p = p) (hq : fw_c q = q) (hf : m_fw σ) : sp_m_copies [(2, 93, 0), (0, 0, p), (0, 0, q)] σ (fun rv σ' => ∃ v : Int, rv = some (0, 0, v) ∧ km_copies p q v σ σ') :=
  ⟨p, q, rfl, ⟨hp, hq⟩, hf, fun hn => ⟨-1, rfl, Or.inl ⟨rfl, rfl, hn⟩⟩, fun p' q' N e1 e2 a b c => ⟨fun z => ⟨0, rfl, Or.inr ⟨p', q', N, e1, e2, a, b, c, z.symm, Or.inl ⟨rfl, rfl⟩⟩⟩, fun z σ' hs => ⟨_, rfl, Or.inr ⟨p', q', N, e1, e2, a, b, c, rfl, Or.inr ⟨z, hs⟩⟩⟩⟩⟩
def k_undo (v : Int) (σ σ' : ab_SG) : Prop := (σ 85 1 = 0 ∧ v = -1 ∧ σ' = σ) ∨ (∃ n p : Nat, σ 85 1 = (n : Int) + 1 ∧ v = (n : Int) ∧ p < 5 ∧ σ 86 (11 * n + 10) = (p : Int) ∧ tk_is σ σ' n p)
def km_undo (v : Int) (σ σ' : ab_SG) : Prop := (σ 93 24 = 0 ∧ v = -1 ∧ σ' = ab_ups σ 93 0 0) ∨ (∃ n : Nat, σ 93 24 = (n : Int) + 1 ∧ v = (n : Int) ∧ ab_okM un_M σ σ' ∧ σ' 93 24 = (n : Int) ∧ (∀ j : Nat, (j < 182 ∨ 232 ≤ j) → σ' 95 j = σ 95 j) ∧ (∀ j : Nat, j < 50 → σ' 95 (182 + j) = fw_c (σ 98 (50 * n + j))))
theorem sk_undo {σ : ab_SG} (h : rx σ) : sp_undo [(2, 0, 0)] σ (fun rv σ' => ∃ v : Int, rv = some (0, 0, v) ∧ k_undo v σ σ') := by
  obtain ⟨-, -, -, n, hn, j85, -, hj⟩ := h
  refine ⟨rfl, ⟨by omega, by omega⟩, fun z => ⟨-1, rfl, Or.inl ⟨z, rfl, rfl⟩⟩, fun z => ?_⟩
  obtain ⟨m, rfl⟩ : ∃ m : Nat, n = m + 1 := ⟨n - 1, by omega⟩
  obtain ⟨p, hp, -, a, -⟩ := hj m (by omega)
  have e : σ 85 1 = (m : Int) + 1 := by omega
  exact ⟨m, p, e, hp, a, fun σ' hs => ⟨_, rfl, Or.inr ⟨m, p, e, rfl, hp, a, hs⟩⟩⟩
theorem sm_undo {σ : ab_SG} (h : 0 ≤ σ 93 24 ∧ σ 93 24 ≤ 8) : sp_m_undo [(2, 93, 0)] σ (fun rv σ' => ∃ v : Int, rv = some (0, 0, v) ∧ km_undo v σ σ') :=
  ⟨rfl, h, fun z => ⟨-1, rfl, Or.inl ⟨z, rfl, rfl⟩⟩, fun n e σ' a b c d => ⟨_, rfl, Or.inr ⟨n, e, rfl, a, b, c, d⟩⟩⟩
section
variable {σ σ1 σm σ2 σ5 : ab_SG}
theorem RQ_same (hc : cN σ) (hR : RQ σ) (h1 : σ1 = σ) (hv : vW σm σ1) (h2 : σ2 = ab_ups σm 93 0 0) (hw : vW σ5 σ2) : RQ σ5 := by
  have s1 : ab_okM [] σ σ1 := okM_of h1
  have s2 : ab_okM [(93, 0)] σm σ2 := by
    rw [h2]
    exact okM_one
  exact ⟨RQ9_tr (vw_W hw) ⟨ra_two (cn_N hc) s1 (vw_W hv) s2 (by decide) (by decide) hR.1.1, rb_two (cn_N hc) s1 (vw_W hv) s2 (by decide) (by decide) hR.1.2.1, rk_two (cn_N hc) s1 (vw_W hv) s2 (by decide) (by decide) hR.1.2.2⟩, rx_two hc s1 hv s2 hw (by decide +kernel) (by decide +kernel) hR.2⟩
theorem RQ_teach {p x k v1 v2 : Int} (hp : fw_c p = p) (hx : fw_c x = x) (hc : cN σ) (hR : RQ σ) (hok5 : ab_okR nn_T σ5) (h1 : k_teach p x k v1 σ σ1) (hv : vW σm σ1) (h2 : km_teach p x k v2 σm σ2) (hw : vW σ5 σ2) : RQ σ5 ∧ v2 = v1 := by
  have c9 := rx_9 hR.2
  have c10 := rx_10 hR.2
  rcases h1 with ⟨a0, a1, a2⟩ | ⟨a0, p', x', e1, e2, f1, f2, f3, f4, κ, k1, k2⟩
  · obtain ⟨-, m95, mp, mx⟩ := rx_mf hc hR (okM_of (M := []) a1) hv rfl
    rcases h2 with ⟨b0, b1, -⟩ | ⟨b0, p', x', e1, e2, f1, f2, f3, f4, -⟩
    · exact ⟨RQ_same hc hR a1 hv b1 hw, b0.trans a0.symm⟩
    · rw [mp] at f1
      rw [mx] at f2
      obtain ⟨bp1, bp2⟩ := pe_b hR.2 hp e1 f1
      obtain ⟨bx1, bx2⟩ := tu_b hR.2 hx e2 f2
      refine absurd (a2 p' x' e1 e2 f1 f2 f3) (fun z => f4 ?_)
      rw [m95 _ (by omega), show 182 + 9 * p' + x' = 182 + (9 * p' + x') by omega, ← c9 _ (by omega)]
      exact z
  · obtain ⟨bp1, bp2⟩ := pe_b hR.2 hp e1 f1
    obtain ⟨bx1, bx2⟩ := tu_b hR.2 hx e2 f2
    have N1 : ab_okM ch_M σ σ1 := by
      rw [k2]
      exact fw_okM_upa (okM_sub k1.1 (by decide)) (by decide)
    obtain ⟨-, m95, mp, mx⟩ := rx_mf hc hR N1 hv (by decide)
    rcases h2 with ⟨b0, b1, b2⟩ | ⟨b0, p2, x2, g1, g2, g3, g4, g5, g6, μ, s1, s2⟩
    · refine absurd (b2 p' x' e1 e2 ((mp p).trans f1) ((mx x).trans f2) f3) (fun z => f4 ?_)
      rw [c9 _ (by omega), show 182 + (9 * p' + x') = 182 + 9 * p' + x' by omega, ← m95 _ (by omega)]
      exact z
    · have i1 : p2 = p' := by omega
      have i2 : x2 = x' := by omega
      rw [i1, i2] at s2
      have t95 : ∀ j : Nat, j < 232 → μ 95 j = σ 95 j := fun j hj => by
        rw [mk_row s1.1 (k := 95) (by decide) j, ab_ups_ne (fun z => absurd z.1 (by decide)), m95 j hj]
      refine ⟨rq_ch bp2 bp1 hc hR hok5 k1 ?_ ?_ ?_ hv s1 ?_ ?_ hw ?_ ?_, b0.trans a0.symm⟩
      · rw [k2]
        exact fw_okM_upa (fw_okM_refl _ _) (by decide)
      · intro j hj
        rw [k2, ab_ups_ne (fun z => by omega)]
      · intro j _
        rw [k2, ab_ups_ne (fun z => absurd z.1 (by decide))]
      · rw [s2]
        exact fw_okM_upa (fw_okM_refl _ _) (by decide)
      · intro j hj _
        rw [s2, ab_ups_ne (fun z => by omega)]
      · intro y hy
        rw [k2, s2]
        by_cases c : y = x'
        · rw [c, ab_ups_eq, ab_ups_eq]
        · rw [ab_ups_ne (fun z => by omega), ab_ups_ne (fun z => by omega), mk_row k1.1 (k := 9) (by decide), t95 _ (by omega), c9 _ (by omega), show 182 + (9 * p' + y) = 182 + 9 * p' + y by omega]
      · rw [k2, s2, ab_ups_ne (fun z => absurd z.1 (by decide)), ab_ups_ne (fun z => by omega), mk_row k1.1 (k := 10) (by decide), t95 _ (by omega), c10 p' bp1]
theorem RQ_dares {p k v1 v2 : Int} (hp : fw_c p = p) (hc : cN σ) (hR : RQ σ) (hok5 : ab_okR nn_T σ5) (h1 : k_dares p k v1 σ σ1) (hv : vW σm σ1) (h2 : km_dares p k v2 σm σ2) (hw : vW σ5 σ2) : RQ σ5 ∧ v2 = v1 := by
  have c9 := rx_9 hR.2
  have c10 := rx_10 hR.2
  rcases h1 with ⟨a0, a1, a2⟩ | ⟨a0, p', e1, f1, f3, f4, κ, k1, k2⟩
  · obtain ⟨-, m95, mp, mx⟩ := rx_mf hc hR (okM_of (M := []) a1) hv rfl
    rcases h2 with ⟨b0, b1, -⟩ | ⟨b0, p', e1, f1, f3, f4, -⟩
    · exact ⟨RQ_same hc hR a1 hv b1 hw, b0.trans a0.symm⟩
    · rw [mp] at f1
      obtain ⟨bp1, bp2⟩ := pe_b hR.2 hp e1 f1
      refine absurd (a2 p' e1 f1 f3) (fun z => f4 ?_)
      rw [m95 _ (by omega), ← c10 p' bp1]
      exact z
  · obtain ⟨bp1, bp2⟩ := pe_b hR.2 hp e1 f1
    have N1 : ab_okM ch_M σ σ1 := by
      rw [k2]
      exact fw_okM_upa (okM_sub k1.1 (by decide)) (by decide)
    obtain ⟨-, m95, mp, mx⟩ := rx_mf hc hR N1 hv (by decide)
    rcases h2 with ⟨b0, b1, b2⟩ | ⟨b0, p2, g1, g3, g5, g6, μ, s1, s2⟩
    · refine absurd (b2 p' e1 ((mp p).trans f1) f3) (fun z => f4 ?_)
      rw [c10 p' bp1, ← m95 _ (by omega)]
      exact z
    · have i1 : p2 = p' := by omega
      rw [i1] at s2
      have t95 : ∀ j : Nat, j < 232 → μ 95 j = σ 95 j := fun j hj => by
        rw [mk_row s1.1 (k := 95) (by decide) j, ab_ups_ne (fun z => absurd z.1 (by decide)), m95 j hj]
      refine ⟨rq_ch bp2 bp1 hc hR hok5 k1 ?_ ?_ ?_ hv s1 ?_ ?_ hw ?_ ?_, b0.trans a0.symm⟩
      · rw [k2]
        exact fw_okM_upa (fw_okM_refl _ _) (by decide)
      · intro j _
        rw [k2, ab_ups_ne (fun z => absurd z.1 (by decide))]
      · intro j hj
        rw [k2, ab_ups_ne (fun z => hj z.2)]
      · rw [s2]
        exact fw_okM_upa (fw_okM_refl _ _) (by decide)
      · intro j _ hj
        rw [s2, ab_ups_ne (fun z => hj z.2)]
      · intro y hy
        rw [k2, s2, ab_ups_ne (fun z => absurd z.1 (by decide)), ab_ups_ne (fun z => by omega), mk_row k1.1 (k := 9) (by decide), t95 _ (by omega), c9 _ (by omega), show 182 + (9 * p' + y) = 182 + 9 * p' + y by omega]
      · rw [k2, s2, ab_ups_eq, ab_ups_eq]
theorem RQ_copies {p q v1 v2 : Int} (hp : fw_c p = p) (hq : fw_c q = q) (hc : cN σ) (hR : RQ σ) (hok5 : ab_okR nn_T σ5) (h1 : k_copies p q v1 σ σ1) (hv : vW σm σ1) (h2 : km_copies p q v2 σm σ2) (hw : vW σ5 σ2) : RQ σ5 ∧ v2 = v1 := by
  have c9 := rx_9 hR.2
  have c10 := rx_10 hR.2
  have hP := rx_p hR.2
  have b0e : σ 3 11 = σ 95 0 := hR.1.2.1.1
  rcases h1 with ⟨a0, a1, a2⟩ | ⟨p', q', N, e1, e2, f1, f2, hN, hV, hD⟩
  · obtain ⟨-, m95, mp, mx⟩ := rx_mf hc hR (okM_of (M := []) a1) hv rfl
    rcases h2 with ⟨b0, b1, -⟩ | ⟨p', q', N, e1, e2, f1, f2, -⟩
    · exact ⟨RQ_same hc hR a1 hv b1 hw, b0.trans a0.symm⟩
    · rw [mp] at f1 f2
      exact absurd ⟨f1, f2⟩ a2
  · obtain ⟨bp1, bp2⟩ := pe_b hR.2 hp e1 f1
    obtain ⟨bq1, bq2⟩ := pe_b hR.2 hq e2 f2
    have N1 : ab_okM ch_M σ σ1 := by
      rcases hD with ⟨-, h⟩ | ⟨-, κ, k1, k2⟩
      · exact okM_of h
      · exact fw_okM_tr (okM_sub k1.1 (by decide)) k2.1 (by decide)
    obtain ⟨-, m95, mp, mx⟩ := rx_mf hc hR N1 hv (by decide)
    rcases h2 with ⟨-, -, b2⟩ | ⟨p2, q2, N2, g1, g2, -, -, hN2, hV2, hD2⟩
    · exact absurd ⟨(mp p).trans f1, (mp q).trans f2⟩ b2
    · have i1 : p2 = p' := by omega
      have i2 : q2 = q' := by omega
      have i3 : N2 = N := by
        rw [m95 0 (by decide)] at hN2
        omega
      rw [i1, i2, i3] at hV2 hD2
      have eV : v2 = v1 := by
        rw [hV, hV2]
        exact cd_cg N (fun i hi => ⟨by rw [m95 _ (by omega), c9 _ (by omega), show 182 + (9 * p' + i) = 182 + 9 * p' + i by omega], by rw [m95 _ (by omega), c9 _ (by omega), show 182 + (9 * q' + i) = 182 + 9 * q' + i by omega]⟩)
      refine ⟨?_, eV⟩
      rcases hD with ⟨d0, d1⟩ | ⟨d0, κ, k1, k2, k3, k4⟩
      · rcases hD2 with ⟨-, d3⟩ | ⟨d2, -⟩
        · exact RQ_same hc hR d1 hv d3 hw
        · exact absurd (eV.trans d0) d2
      · rcases hD2 with ⟨d2, -⟩ | ⟨-, μ, s1, s2, s3, s4⟩
        · exact absurd (eV.symm.trans d2) d0
        · have t95 : ∀ j : Nat, j < 232 → μ 95 j = σ 95 j := fun j hj => by
            rw [mk_row s1.1 (k := 95) (by decide) j, ab_ups_ne (fun z => absurd z.1 (by decide)), m95 j hj]
          refine rq_ch bp2 bp1 hc hR hok5 k1 (okM_sub k2 (by decide)) (fun j hj => k3 j (by omega)) (fun j _ => mk_row k2 (k := 10) (by decide) j) hv s1 s2 (fun j hj _ => s3 j (by omega)) hw (fun y hy => ?_) ?_
          · by_cases c : y < N
            · rw [k4 y c, s4 y c, mk_row k1.1 (k := 9) (by decide), t95 _ (by omega), c9 _ (by omega), show 182 + (9 * q' + y) = 182 + 9 * q' + y by omega]
            · rw [k3 _ (by omega), s3 _ (by omega), mk_row k1.1 (k := 9) (by decide), t95 _ (by omega), c9 _ (by omega), show 182 + (9 * p' + y) = 182 + 9 * p' + y by omega]
          · rw [mk_row k2 (k := 10) (by decide), mk_row k1.1 (k := 10) (by decide), s3 _ (by omega), t95 _ (by omega), c10 p' bp1]
theorem RQ_undo {v1 v2 : Int} (hc : cN σ) (hR : RQ σ) (hok5 : ab_okR nn_T σ5) (h1 : k_undo v1 σ σ1) (hv : vW σm σ1) (h2 : km_undo v2 σm σ2) (hw : vW σ5 σ2) : RQ σ5 ∧ v2 = v1 := by
  have hx := hR.2
  have c9 := rx_9 hx
  have c10 := rx_10 hx
  have hP := rx_p hx
  obtain ⟨n0, hn0, j85, j24, hj⟩ := hx.2.2.2
  rcases h1 with ⟨a0, a1, a2⟩ | ⟨n, p, e1, a1, hp, a2, k1, k2, k3, k4, k5, k6⟩
  · have m24 : σm 93 24 = σ 93 24 := xm_at hc (okM_of (M := []) a2) hv (Or.inr sw93) rfl
    rcases h2 with ⟨-, b1, b2⟩ | ⟨n, b0, -⟩
    · exact ⟨RQ_same hc hR a2 hv b2 hw, b1.trans a1.symm⟩
    · omega
  · have m24 : σm 93 24 = σ 93 24 := xm_at hc k1 hv (Or.inr sw93) (by decide)
    rcases h2 with ⟨b0, -⟩ | ⟨n2, b0, b1, s1, s2, s3, s4⟩
    · omega
    · have i1 : n2 = n := by omega
      subst i1
      have i2 : n0 = n2 + 1 := by omega
      subst i2
      refine ⟨?_, b1.trans a1.symm⟩
      have m95 : ∀ j : Nat, j < 232 → σm 95 j = σ 95 j := fun j hj => xm_at hc k1 hv (Or.inr (swr (by decide) hj)) (off_mk (by decide) j)
      have m98 : ∀ j : Nat, j < 400 → σm 98 j = σ 98 j := fun j hj => xm_at hc k1 hv (Or.inr (swr (by decide) hj)) (off_mk (by decide) j)
      have q95 : ∀ j : Nat, j < 232 → fw_c (σ 95 j) = σ 95 j := fun j hj => hc.1 95 j (Or.inr (swr (by decide) hj))
      have q98 : ∀ j : Nat, j < 400 → fw_c (σ 98 j) = σ 98 j := fun j hj => hc.1 98 j (Or.inr (swr (by decide) hj))
      have q9 : ∀ j : Nat, j < 45 → fw_c (σ 9 j) = σ 9 j := fun j hj => hc.1 9 j (Or.inr (swr (by decide) hj))
      have q10 : ∀ j : Nat, j < 5 → fw_c (σ 10 j) = σ 10 j := fun j hj => hc.1 10 j (Or.inr (swr (by decide) hj))
      have q86 : ∀ j : Nat, j < 88 → fw_c (σ 86 j) = σ 86 j := fun j hj => hc.1 86 j (Or.inr (swr (by decide) hj))
      have o95 : ∀ j : Nat, j < 182 → σ5 95 j = σ 95 j := fun j hj => by
        rw [hw.1 95 j (Or.inr (swr (k := 95) (n := 232) (by decide) (by omega))), s3 j (Or.inl hj), m95 j (by omega), q95 j (by omega)]
      have v95 : ∀ j : Nat, j < 50 → σ5 95 (182 + j) = σ 98 (50 * n2 + j) := fun j hj => by
        rw [hw.1 95 _ (Or.inr (swr (k := 95) (n := 232) (by decide) (by omega))), s4 j hj, fw_c_c, m98 _ (by omega), q98 _ (by omega)]
      have w9 : ∀ j : Nat, j < 45 → σ5 9 j = fw_c (σ1 9 j) := fun j hj => by
        rw [hw.1 9 j (Or.inr (swr (by decide) hj)), mk_row s1 (k := 9) (by decide), hv.1 9 j (Or.inr (swr (by decide) hj)), fw_c_c]
      have w10 : ∀ j : Nat, j < 5 → σ5 10 j = fw_c (σ1 10 j) := fun j hj => by
        rw [hw.1 10 j (Or.inr (swr (by decide) hj)), mk_row s1 (k := 10) (by decide), hv.1 10 j (Or.inr (swr (by decide) hj)), fw_c_c]
      obtain ⟨p2, hp2, hpp, r1, r2, r3, r4⟩ := hj n2 (Nat.lt_succ_self _)
      have r1' : σ 86 (11 * n2 + 10) = (p2 : Int) := r1
      have i3 : p2 = p := by omega
      subst i3
      have r2' : ∀ x : Nat, x < 9 → σ 86 (11 * n2 + x) = σ 98 (50 * n2 + (9 * p2 + x)) := r2
      have r3' : σ 86 (11 * n2 + 9) = σ 98 (50 * n2 + (45 + p2)) := r3
      have r4' : ∀ j : Nat, j < 50 → ¬ (9 * p2 ≤ j ∧ j < 9 * p2 + 9) → j ≠ 45 + p2 → σ 98 (50 * n2 + j) = σ 95 (182 + j) := fun j hj a b => by
        have h9 : σ 98 (50 * n2 + j) = jS σ (n2 + 1) (n2 + 1) j := r4 j hj a b
        unfold jS at h9
        rw [if_pos rfl] at h9
        exact h9
      have n9 : ∀ j : Nat, j < 45 → σ5 9 j = σ5 95 (182 + j) := fun j hj => by
        rw [w9 j hj, v95 j (by omega)]
        by_cases z : 9 * p2 ≤ j ∧ j < 9 * p2 + 9
        · obtain ⟨y, rfl⟩ : ∃ y : Nat, j = 9 * p2 + y := ⟨j - 9 * p2, by omega⟩
          rw [k4 y (by omega), fw_c_c, q86 _ (by omega), r2' y (by omega)]
        · rw [k3 j (by omega), r4' j (by omega) z (by omega), ← c9 j hj, q9 j hj]
      have n10 : ∀ j : Nat, (j : Int) < σ 3 13 → σ5 10 j = σ5 95 (227 + j) := fun j hj => by
        have h5 : j < 5 := by omega
        rw [w10 j h5, show 227 + j = 182 + (45 + j) by omega, v95 _ (by omega)]
        by_cases z : j = p2
        · subst z
          rw [k5, fw_c_c, q86 _ (by omega), r3']
        · rw [k6 j z, r4' (45 + j) (by omega) (by omega) (by omega), show 182 + (45 + j) = 227 + j by omega, ← c10 j hj, q10 j h5]
      have l10 : ∀ j : Nat, σ 3 13 ≤ (j : Int) → j < 5 → σ5 10 j = σ 10 j := fun j hj h5 => by
        rw [w10 j h5, k6 j (by omega), q10 j h5]
      obtain ⟨z9, z18, z33⟩ := ch_rest hc hR k1 hv s1 hw o95 (by decide +kernel) (by decide +kernel)
      have e3 : ∀ j : Nat, 11 ≤ j → j ≤ 14 → σ5 3 j = σ 3 j := fun j a b => xt_at hc k1 hv s1 hw (Or.inl (su3 a b)) (off_mk (by decide) j) (off_mk (by decide) j)
      refine ⟨z9, rc_ch hok5 e3 (fun q hq a b j hj => ?_) o95 (xt_at hc k1 hv s1 hw (Or.inl (su93 (Or.inr rfl))) (by decide) (by decide)) (fun j hj => xt_l hc k1 hv s1 hw (slr (by decide) hj) (off_mk (by decide) j) (off_mk (by decide) j)) n9 n10 l10 hx.1, z18, z33, n2, by omega, ?_, ?_, fun t ht => ?_⟩
      · have o1 : ∀ q ∈ cp_n, q.1 ≠ 6 → q.1 ≠ 7 → tk_M.all (fun z => !(z.1.beq (3 + q.1))) = true ∧ un_M.all (fun z => !(z.1.beq (3 + q.1))) = true := by decide +kernel
        have o2 := o1 q hq a b
        rcases cp_sw q hq 3 (by decide) with z | z
        · exact xt_at hc k1 hv s1 hw (Or.inr (swr z hj)) (off_mk o2.1 j) (off_mk o2.2 j)
        · exact xt_l hc k1 hv s1 hw (slr z hj) (off_mk o2.1 j) (off_mk o2.2 j)
      · rw [hw.1 85 1 (Or.inr sw85), mk_at s1 (by decide), hv.1 85 1 (Or.inr sw85), k2, fw_c_c]
        exact fw_c_id (by omega) (by omega)
      · rw [hw.1 93 24 (Or.inr sw93), s2]
        exact fw_c_id (by omega) (by omega)
      · have b98 : ∀ j : Nat, j < 400 → σ5 98 j = σ 98 j := fun j hj => xt_at hc k1 hv s1 hw (Or.inr (swr (by decide) hj)) (off_mk (by decide) j) (off_mk (by decide) j)
        refine jt_cg (e3 13 (by decide) (by decide)) (fun i hi => ?_) (fun j hj2 => b98 _ (by omega)) (fun j hj2 => ?_) (hj t (by omega))
        · exact xt_at hc k1 hv s1 hw (k := 86) (Or.inr (swr (k := 86) (n := 88) (by decide) (by omega))) (off_mk (by decide) _) (off_mk (by decide) _)
        · show jS σ5 n2 (t + 1) j = jS σ (n2 + 1) (t + 1) j
          unfold jS
          by_cases h9 : t + 1 = n2
          · rw [if_pos h9, if_neg (by omega), h9]
            exact v95 j hj2
          · rw [if_neg h9, if_neg (by omega)]
            exact b98 _ (by omega)
end
theorem kM_teach {σ σ' : ab_SG} {p x k v : Int} (h : k_teach p x k v σ σ') : ab_okM ch_M σ σ' := by
  rcases h with ⟨-, h, -⟩ | ⟨-, p', x', -, -, -, -, -, -, κ, k1, k2⟩
  · exact okM_of h
  · rw [k2]
    exact fw_okM_upa (okM_sub k1.1 (by decide)) (by decide)
theorem kM_dares {σ σ' : ab_SG} {p k v : Int} (h : k_dares p k v σ σ') : ab_okM ch_M σ σ' := by
  rcases h with ⟨-, h, -⟩ | ⟨-, p', -, -, -, -, κ, k1, k2⟩
  · exact okM_of h
  · rw [k2]
    exact fw_okM_upa (okM_sub k1.1 (by decide)) (by decide)
theorem kM_copies {σ σ' : ab_SG} {p q v : Int} (h : k_copies p q v σ σ') : ab_okM ch_M σ σ' := by
  rcases h with ⟨-, h, -⟩ | ⟨p', q', N, -, -, -, -, -, -, ⟨-, h⟩ | ⟨-, κ, k1, k2⟩⟩
  · exact okM_of h
  · exact okM_of h
  · exact fw_okM_tr (okM_sub k1.1 (by decide)) k2.1 (by decide)
theorem kM_undo {σ σ' : ab_SG} {v : Int} (h : k_undo v σ σ') : ab_okM ch_M σ σ' := by
  rcases h with ⟨-, -, h⟩ | ⟨n, p, -, -, -, -, h⟩
  · exact okM_of h
  · exact okM_sub h.1 (by decide)
/-- what a list of a frame's own leaves -/
def sy_b (M : ab_ML) : Bool := M.all (fun q => !(q.1.beq 95) || q.2.beq 3 || ((232 : Nat).ble q.2 && !(q.2.beq 1000000)))
theorem mk_95b {M : ab_ML} {σ σ' : ab_SG} (h : ab_okM M σ σ') (hb : sy_b M = true) {j : Nat} (hj : j < 232) (h3 : j ≠ 3) : σ' 95 j = σ 95 j := by
  refine h 95 j (fun q hq hh => ?_)
  have h1 := List.all_eq_true.mp hb q hq
  rw [hh.1, Nat.beq_refl, Bool.not_true, Bool.false_or, Bool.or_eq_true] at h1
  rcases h1 with h2 | h2
  · have h2 := Nat.eq_of_beq_eq_true h2
    rcases hh.2 with z | z
    · exact h3 (z.symm.trans h2)
    · rw [h2] at z
      exact absurd z (by decide)
  · rw [Bool.and_eq_true] at h2
    have h4 := Nat.le_of_ble_eq_true h2.1
    rcases hh.2 with z | z
    · omega
    · rw [z] at h2
      exact absurd h2.2 (by decide)
theorem rx_one {M : ab_ML} {σ σ' : ab_SG} (h : ab_okM M σ σ') (m : rx_c M = true) (h22 : ∀ j : Nat, j < 232 → mlN σ' j = mlN σ j) (h95 : ∀ j : Nat, 182 ≤ j → j < 232 → σ' 95 j = σ 95 j) (hx : rx σ) : rx σ' := by
  unfold rx_c at m
  simp only [Bool.and_eq_true] at m
  obtain ⟨⟨⟨⟨a1, a2⟩, a3⟩, ⟨⟨⟨⟨⟨a4, a5⟩, a6⟩, a7⟩, a8⟩, a9⟩⟩, b1, b2⟩ := m
  obtain ⟨x1, x2, x3, x4⟩ := hx
  exact ⟨rc_cg (cb_M h a1) (fun j hj _ => h22 j hj) (fun j _ => mk_row h a8 j) x1, ri_cg (by decide) (cb_M h a2) (mk_row h a9 0) (fun j _ _ => mk_row h a6 j) (fun j _ _ => mk_row h a7 j) x2, ri_cg (by decide) (cb_M h a3) (mk_row h a9 1) (fun j _ _ => mk_row h a6 j) (fun j _ _ => mk_row h a7 j) x3,
    jr_cg ((cb_M h a1).1 13 (by decide) (by decide)) (mk_at h b1) (mk_at h b2) (fun j _ => mk_row h a4 j) (fun j _ => mk_row h a5 j) h95 x4⟩
end
section
/-! what is asked of a studio: notes, times, clues, tunes -/
def NC (σ A : ab_SG) : Prop := RI A ∧ nb_is A ∧ cn_is σ 3 A
def NM (σ A : ab_SG) : Prop := RI A ∧ nb_is A ∧ sr_is (mlN σ) (σ 99) A
theorem mlN_j {σ : ab_SG} {j : Nat} (h : j ≠ 3) : mlN σ j = σ 95 j := by
  unfold mlN
  exact if_neg (fun z => h z.2)
theorem NM_n {σ A : ab_SG} (h : NM σ A) : σ 95 0 = A 49 11 ∧ σ 95 1 = A 49 12 ∧ σ 95 2 = A 49 13 := by
  obtain ⟨-, -, a, b, c, -⟩ := h
  rw [mlN_j (by decide)] at a b c
  exact ⟨a, b, c⟩
theorem fw_s {x : Int} (h1 : -2000 ≤ x) (h2 : x ≤ 2000) : fw_c x = x := fw_c_id (by omega) (by omega)
section
variable {l : Launch} {cy : Nat → ClassId} {ad wr cr : Nat → Nat} {D : va_G}
end
end
section
/-! which tunes begin alike -/
section
variable {l : Launch} {cy : Nat → ClassId} {ad wr cr : Nat → Nat} {D : va_G}
end
end
section
/-! an evening's lines: what they tell, by themselves; the class reads and judges them -/
def ev_st (e : tk_E) (p : Nat) : Int := fw_c (tk e p).2.1
/-- the clue's line: a fault (0: none), where -/
def ev_h (A : ab_SG) (e : tk_E) : Int × Int :=
  if tw e 0 ≠ 1 then (1, ev_st e 0)
  else if pr_sk A e 58 (A 49 12) (tn e 0) ≠ 0 then (pr_sk A e 58 (A 49 12) (tn e 0), ev_st e (tn e 0))
  else if (tk e (tn e (tn e 0))).1 ≠ 59 then (1, ev_st e (tn e (tn e 0)))
  else (0, 0)
def ev_c (A : ab_SG) (e : tk_E) : Int := pr_ix A e 58 (A 49 12) (tn e 0)
/-- a line's -/
def ev_g (A : ab_SG) (e : tk_E) (p : Nat) : Int × Int :=
  if pr_sk A e 59 (A 49 13) p ≠ 0 then (pr_sk A e 59 (A 49 13) p, ev_st e p)
  else if tw e (tn e p) ≠ 6 ∧ pr_nm e (tn e p) 1 9 ≠ 0 then (pr_nm e (tn e p) 1 9, ev_st e (tn e p))
  else if (tk e (tn e (tn e p))).1 ≠ 59 then (1, ev_st e (tn e (tn e p)))
  else (0, 0)
def ev_w (e : tk_E) (p : Nat) : Int := if tw e (tn e p) = 6 then 0 else (tk e (tn e p)).2.2.2.2
def ev_p (A : ab_SG) (e : tk_E) (p : Nat) : Int := pr_ix A e 59 (A 49 13) p
/-- where a line begins -/
def ev_q (e : tk_E) : Nat → Nat
  | 0 => tn e (tn e (tn e 0))
  | i + 1 => tn e (tn e (tn e (ev_q e i)))
theorem ev_qs (e : tk_E) (i : Nat) : ev_q e (i + 1) = tn e (tn e (tn e (ev_q e i))) := rfl
/-- all lines: a fault, where, how many -/
def ev_a (A : ab_SG) (e : tk_E) : Nat → Nat → Int × Int × Nat
  | 0, i => (0, 0, i)
  | f + 1, i => if (tk e (ev_q e i)).1 = 0 then (0, 0, i) else if (ev_g A e (ev_q e i)).1 ≠ 0 then ((ev_g A e (ev_q e i)).1, (ev_g A e (ev_q e i)).2, i) else ev_a A e f (i + 1)
theorem ev_a0 {A : ab_SG} {e : tk_E} {f i : Nat} (h : (tk e (ev_q e i)).1 = 0) : ev_a A e (f + 1) i = (0, 0, i) := if_pos h
theorem ev_a1 {A : ab_SG} {e : tk_E} {f i : Nat} (h : (tk e (ev_q e i)).1 ≠ 0) (g : (ev_g A e (ev_q e i)).1 ≠ 0) : ev_a A e (f + 1) i = ((ev_g A e (ev_q e i)).1, (ev_g A e (ev_q e i)).2, i) := (if_neg h).trans (if_pos g)
theorem ev_a2 {A : ab_SG} {e : tk_E} {f i : Nat} (h : (tk e (ev_q e i)).1 ≠ 0) (g : (ev_g A e (ev_q e i)).1 = 0) : ev_a A e (f + 1) i = ev_a A e f (i + 1) := (if_neg h).trans (if_neg (fun z => z g))
def ev_r (A : ab_SG) (e : tk_E) : Int × Int × Nat := if (ev_h A e).1 ≠ 0 then ((ev_h A e).1, (ev_h A e).2, 0) else ev_a A e 400 0
theorem ev_r1 {A : ab_SG} {e : tk_E} (h : (ev_h A e).1 ≠ 0) : ev_r A e = ((ev_h A e).1, (ev_h A e).2, 0) := if_pos h
theorem ev_r2 {A : ab_SG} {e : tk_E} (h : (ev_h A e).1 = 0) : ev_r A e = ev_a A e 400 0 := if_neg (fun z => z h)
/-- what is known behind a line: why it is wrong, which was, the bid, whose, who names, who is to speak -/
abbrev jg_T : Type := Int × Int × Int × Int × Int × Int
def jg_0 : jg_T := (0, -1, 0, -1, -1, -1)
def jg_w (A : ab_SG) (s : jg_T) (p n : Int) : Int :=
  if s.2.2.2.2.1 ≠ -1 then 1
  else if (s.2.2.2.2.2 ≠ -1 ∧ p ≠ s.2.2.2.2.2) ∨ (s.2.2.2.2.2 = -1 ∧ p = s.2.2.2.1) then 2
  else if n = 0 then (if s.2.2.1 = 0 then 4 else 0)
  else if (if s.2.2.1 = 0 then A 49 14 else s.2.2.1 - 1) < n then 3 else 0
def jg_1 (A : ab_SG) (s : jg_T) (i p n : Int) : jg_T :=
  if s.1 ≠ 0 then s
  else if jg_w A s p n ≠ 0 then (jg_w A s p n, i, s.2.2.1, s.2.2.2.1, s.2.2.2.2.1, s.2.2.2.2.2)
  else if n = 0 then (0, s.2.1, s.2.2.1, s.2.2.2.1, p, -1)
  else (0, s.2.1, n, p, s.2.2.2.2.1, s.2.2.2.1)
def jg_n (A : ab_SG) (e : tk_E) : Nat → jg_T
  | 0 => jg_0
  | i + 1 => jg_1 A (jg_n A e i) ((i : Int) + 1) (ev_p A e (ev_q e i)) (ev_w e (ev_q e i))
theorem jg_ns (A : ab_SG) (e : tk_E) (i : Nat) : jg_n A e (i + 1) = jg_1 A (jg_n A e i) ((i : Int) + 1) (ev_p A e (ev_q e i)) (ev_w e (ev_q e i)) := rfl
def v_ev (A : ab_SG) (e : tk_E) : Int := if (ev_r A e).1 ≠ 0 then -2 - (ev_r A e).2.1 else (jg_n A e (ev_r A e).2.2).2.1
/-! where tokens end: a line takes four bytes -/
theorem tk_run_al (t : Nat → Int) : ∀ (f p : Nat) (s : tk_S), (tk_run t f p s).1 < p + f → ¬ ((97 ≤ t (tk_run t f p s).1 ∧ t (tk_run t f p s).1 ≤ 122) ∨ (48 ≤ t (tk_run t f p s).1 ∧ t (tk_run t f p s).1 ≤ 57)) := by
  intro f
  induction f with
  | zero => intro p s h; exact absurd h (Nat.lt_irrefl _)
  | succ f ih =>
    intro p s h
    by_cases c : 97 ≤ t p ∧ t p ≤ 122
    · have e : tk_run t (f + 1) p s = tk_run t f (p + 1) (s.1 + 1, s.2.1, fw_d (s.2.2.1 * 32 + t p - 97 + 1), s.2.2.2) := if_pos c
      rw [e] at h ⊢
      exact ih (p + 1) _ (by omega)
    · by_cases c2 : 48 ≤ t p ∧ t p ≤ 57
      · have e : tk_run t (f + 1) p s = tk_run t f (p + 1) (s.1, s.2.1 + 1, s.2.2.1, fw_c (s.2.2.2 * 10 + t p - 48)) := (if_neg c).trans (if_pos c2)
        rw [e] at h ⊢
        exact ih (p + 1) _ (by omega)
      · have e : tk_run t (f + 1) p s = (p, s) := (if_neg c).trans (if_neg c2)
        rw [e]
        exact fun z => z.elim c c2
theorem tk_run_lt {t : Nat → Int} {f q : Nat} {s : tk_S} (h : (97 ≤ t q ∧ t q ≤ 122) ∨ (48 ≤ t q ∧ t q ≤ 57)) (hf : 0 < f) : q + 1 ≤ (tk_run t f q s).1 := by
  obtain ⟨g, rfl⟩ : ∃ g, f = g + 1 := ⟨f - 1, by omega⟩
  unfold tk_run
  split
  · exact (tk_run_le t g (q + 1) _).1
  · split
    · exact (tk_run_le t g (q + 1) _).1
    · exfalso
      omega
theorem tk_rt_e (q : Nat) (r : Nat × tk_S) : (tk_rt q r).2.2.1 = r.1 := by
  unfold tk_rt
  split
  · rfl
  · split <;> rfl
/-- a word or a number: where it begins, and that it has a byte -/
theorem tk_al {e : tk_E} {r : Nat} (hk : (tk e r).1 = 2 ∨ (tk e r).1 = 3) : ∃ q : Nat, q = tk_sk e.1 (e.2.1 - r) r ∧ q < e.2.1 ∧ ((97 ≤ e.1 q ∧ e.1 q ≤ 122) ∨ (48 ≤ e.1 q ∧ e.1 q ≤ 57)) ∧ q + 1 ≤ tn e r ∧ (e.2.2 < (e.2.1 : Int) → (q : Int) < e.2.2) ∧ tn e r = (tk_run e.1 (e.2.1 - q) q (0, 0, 0, 0)).1 := by
  replace hk : (tk_at e.1 e.2.1 e.2.2 (tk_sk e.1 (e.2.1 - r) r)).1 = 2 ∨ (tk_at e.1 e.2.1 e.2.2 (tk_sk e.1 (e.2.1 - r) r)).1 = 3 := hk
  refine ⟨_, rfl, ?_⟩
  show tk_sk e.1 (e.2.1 - r) r < e.2.1 ∧ _ ∧ tk_sk e.1 (e.2.1 - r) r + 1 ≤ (tk_at e.1 e.2.1 e.2.2 (tk_sk e.1 (e.2.1 - r) r)).2.2.1 ∧ _ ∧ (tk_at e.1 e.2.1 e.2.2 (tk_sk e.1 (e.2.1 - r) r)).2.2.1 = _
  generalize tk_sk e.1 (e.2.1 - r) r = q at hk ⊢
  unfold tk_at at hk ⊢
  by_cases h1 : e.2.2 < (e.2.1 : Int) ∧ e.2.2 ≤ (q : Int)
  · rw [if_pos h1] at hk
    exact absurd hk (by show ¬ ((1 : Int) = 2 ∨ (1 : Int) = 3); decide)
  rw [if_neg h1] at hk ⊢
  by_cases h2 : e.2.1 ≤ q
  · rw [if_pos h2] at hk
    exact absurd hk (by show ¬ ((0 : Int) = 2 ∨ (0 : Int) = 3); decide)
  rw [if_neg h2] at hk ⊢
  by_cases h3 : (97 ≤ e.1 q ∧ e.1 q ≤ 122) ∨ (48 ≤ e.1 q ∧ e.1 q ≤ 57)
  · rw [if_pos h3, tk_rt_e]
    exact ⟨by omega, h3, tk_run_lt h3 (by omega), fun z => by omega, rfl⟩
  · rw [if_neg h3] at hk
    replace hk : (if e.1 q = 59 ∨ (60 ≤ e.1 q ∧ e.1 q ≤ 62) ∨ e.1 q = 40 ∨ e.1 q = 41 ∨ e.1 q = 46 then e.1 q else 1) = 2 ∨ (if e.1 q = 59 ∨ (60 ≤ e.1 q ∧ e.1 q ≤ 62) ∨ e.1 q = 40 ∨ e.1 q = 41 ∨ e.1 q = 46 then e.1 q else 1) = (3 : Int) := hk
    exfalso
    split at hk <;> omega
theorem tn_sep {e : tk_E} {p : Nat} (h : p ≤ e.2.1) (hk : (tk e p).1 = 2) (hk2 : (tk e (tn e p)).1 = 2 ∨ (tk e (tn e p)).1 = 3) : tn e p + 2 ≤ tn e (tn e p) := by
  obtain ⟨q, -, q1, -, -, -, q2⟩ := tk_al (Or.inl hk)
  obtain ⟨r, r0, r1, r2, r3, -, -⟩ := tk_al hk2
  have s := tk_sk_le e.1 (e.2.1 - tn e p) (tn e p)
  have n1 : ¬ r = tn e p := fun z => by
    have g := tk_run_al e.1 (e.2.1 - q) q (0, 0, 0, 0) (by rw [← q2]; omega)
    rw [← q2, ← z] at g
    exact g r2
  omega
theorem ev_tk {e : tk_E} {p : Nat} (h : 0 ≤ tw e p) : (tk e p).1 = 2 := by
  unfold tw at h
  split at h
  · assumption
  · omega
theorem pr_sk_0 {A : ab_SG} {e : tk_E} {k p : Nat} {n : Int} (h : pr_sk A e k n p = 0) : (tk e p).1 = 2 ∧ tw e p < 0 ∧ 0 ≤ pr_ix A e k n p ∧ pr_ix A e k n p < max n 1 := by
  unfold pr_sk at h
  by_cases c : (tk e p).1 = 2 ∧ tw e p < 0
  · rw [if_pos c] at h
    by_cases d : pr_ix A e k n p < 0
    · rw [if_pos d] at h
      exact absurd h (by decide)
    · have g := rw_fd_le (A k) (pr_wd e p) n.toNat 0
      have g2 : pr_ix A e k n p < 0 ∨ ((0 : Nat) : Int) ≤ pr_ix A e k n p ∧ pr_ix A e k n p < ((0 : Nat) : Int) + n.toNat := g
      exact ⟨c.1, c.2, by omega, by omega⟩
  · rw [if_neg c] at h
    exact absurd h (by decide)
theorem pr_nm_0 {e : tk_E} {p : Nat} {a b : Int} (h : pr_nm e p a b = 0) : (tk e p).1 = 3 ∧ a ≤ (tk e p).2.2.2.2 ∧ (tk e p).2.2.2.2 ≤ b := by
  unfold pr_nm at h
  by_cases c : (tk e p).1 = 3
  · rw [if_pos c] at h
    by_cases d : a ≤ (tk e p).2.2.2.2 ∧ (tk e p).2.2.2.2 ≤ b
    · exact ⟨c, d⟩
    · rw [if_neg d] at h
      exact absurd h (by decide)
  · rw [if_neg c] at h
    exact absurd h (by decide)
/-- a line without a fault -/
theorem ev_g0 {A : ab_SG} {e : tk_E} {p : Nat} (h : (ev_g A e p).1 = 0) : pr_sk A e 59 (A 49 13) p = 0 ∧ (tw e (tn e p) = 6 ∨ pr_nm e (tn e p) 1 9 = 0) ∧ (tk e (tn e (tn e p))).1 = 59 := by
  unfold ev_g at h
  by_cases c : pr_sk A e 59 (A 49 13) p ≠ 0
  · rw [if_pos c] at h
    exact absurd h c
  rw [if_neg c] at h
  by_cases d : tw e (tn e p) ≠ 6 ∧ pr_nm e (tn e p) 1 9 ≠ 0
  · rw [if_pos d] at h
    exact absurd h d.2
  rw [if_neg d] at h
  by_cases g : (tk e (tn e (tn e p))).1 ≠ 59
  · rw [if_pos g] at h
    exact absurd h (by show ¬ ((1 : Int) = 0); decide)
  · exact ⟨by omega, by omega, by omega⟩
theorem ev_h0 {A : ab_SG} {e : tk_E} (h : (ev_h A e).1 = 0) : tw e 0 = 1 ∧ pr_sk A e 58 (A 49 12) (tn e 0) = 0 ∧ (tk e (tn e (tn e 0))).1 = 59 := by
  unfold ev_h at h
  by_cases c : tw e 0 ≠ 1
  · rw [if_pos c] at h
    exact absurd h (by show ¬ ((1 : Int) = 0); decide)
  rw [if_neg c] at h
  by_cases d : pr_sk A e 58 (A 49 12) (tn e 0) ≠ 0
  · rw [if_pos d] at h
    exact absurd h d
  rw [if_neg d] at h
  by_cases g : (tk e (tn e (tn e 0))).1 ≠ 59
  · rw [if_pos g] at h
    exact absurd h (by show ¬ ((1 : Int) = 0); decide)
  · exact ⟨by omega, by omega, by omega⟩
theorem ev_q4 {A : ab_SG} {e : tk_E} {p : Nat} (hp : p ≤ e.2.1) (h : (ev_g A e p).1 = 0) : p + 4 ≤ tn e (tn e (tn e p)) ∧ tn e (tn e (tn e p)) ≤ e.2.1 := by
  obtain ⟨a, b, c⟩ := ev_g0 h
  have k := pr_sk_0 a
  have l1 := tn_le hp
  have l2 := tn_le l1.2
  have l3 := tn_le l2.2
  have m1 := tn_lt hp (by omega)
  have m2 := tn_sep hp k.1 (by
    rcases b with b | b
    · exact Or.inl (ev_tk (by omega))
    · exact Or.inr (pr_nm_0 b).1)
  have m3 := tn_lt l2.2 (by omega)
  omega
theorem ev_q0 {A : ab_SG} {e : tk_E} (h : (ev_h A e).1 = 0) : 4 ≤ ev_q e 0 ∧ ev_q e 0 ≤ e.2.1 := by
  obtain ⟨a, b, c⟩ := ev_h0 h
  have k := pr_sk_0 b
  have l1 := tn_le (Nat.zero_le e.2.1)
  have l2 := tn_le l1.2
  have l3 := tn_le l2.2
  have m1 := tn_lt (Nat.zero_le e.2.1) (by rw [ev_tk (by omega)]; decide)
  have m2 := tn_sep (Nat.zero_le e.2.1) (ev_tk (by omega)) (Or.inl k.1)
  have m3 := tn_lt l2.2 (by omega)
  show 4 ≤ tn e (tn e (tn e 0)) ∧ tn e (tn e (tn e 0)) ≤ e.2.1
  omega
/-- a line that is told begins below its place -/
theorem ev_lt {e : tk_E} {p : Nat} (h : e.2.2 = 400) (hk : (tk e p).1 = 2) : p < 400 := by
  obtain ⟨q, q0, q1, -, -, q2, -⟩ := tk_al (Or.inl hk)
  have s := tk_sk_le e.1 (e.2.1 - p) p
  rw [h] at q2
  omega
theorem ev_aok {A : ab_SG} {e : tk_E} : ∀ (f i : Nat), (ev_a A e f i).1 = 0 → i ≤ (ev_a A e f i).2.2 ∧ ∀ j : Nat, i ≤ j → j < (ev_a A e f i).2.2 → (ev_g A e (ev_q e j)).1 = 0 := by
  intro f
  induction f with
  | zero =>
    intro i _
    refine ⟨Nat.le_refl i, fun j h1 h2 => ?_⟩
    replace h2 : j < i := h2
    omega
  | succ f ih =>
    intro i h
    by_cases c : (tk e (ev_q e i)).1 = 0
    · rw [ev_a0 c]
      refine ⟨Nat.le_refl i, fun j h1 h2 => ?_⟩
      replace h2 : j < i := h2
      omega
    by_cases d : (ev_g A e (ev_q e i)).1 ≠ 0
    · rw [ev_a1 c d] at h
      exact absurd h d
    rw [ev_a2 c (by omega)] at h ⊢
    have g := ih (i + 1) h
    refine ⟨by omega, fun j h1 h2 => ?_⟩
    by_cases y : j = i
    · rw [y]
      omega
    · exact g.2 j (by omega) h2
theorem ev_rok {A : ab_SG} {e : tk_E} (h : (ev_r A e).1 = 0) : (ev_h A e).1 = 0 ∧ ∀ j : Nat, j < (ev_r A e).2.2 → (ev_g A e (ev_q e j)).1 = 0 := by
  by_cases c : (ev_h A e).1 ≠ 0
  · rw [ev_r1 c] at h
    exact absurd h c
  rw [ev_r2 (by omega)] at h ⊢
  exact ⟨by omega, fun j hj => (ev_aok 400 0 h).2 j (Nat.zero_le j) hj⟩
/-- numbers of a line -/
theorem ev_b {A : ab_SG} (hi : RI A) {e : tk_E} {p : Nat} (h : (ev_g A e p).1 = 0) : (0 ≤ ev_p A e p ∧ ev_p A e p < 5) ∧ (0 ≤ ev_w e p ∧ ev_w e p ≤ 9) := by
  obtain ⟨a, b, c⟩ := ev_g0 h
  have k := pr_sk_0 a
  have n := hi.2.2.1
  refine ⟨⟨k.2.2.1, ?_⟩, ?_⟩
  · show pr_ix A e 59 (A 49 13) p < 5
    omega
  · unfold ev_w
    by_cases d : tw e (tn e p) = 6
    · rw [if_pos d]
      decide
    · rw [if_neg d]
      have g := pr_nm_0 (b.resolve_left d)
      omega
def jg_B (s : jg_T) : Prop := (0 ≤ s.1 ∧ s.1 ≤ 4) ∧ (-1 ≤ s.2.1 ∧ s.2.1 ≤ 400) ∧ (0 ≤ s.2.2.1 ∧ s.2.2.1 ≤ 9) ∧ (-1 ≤ s.2.2.2.1 ∧ s.2.2.2.1 ≤ 4) ∧ (-1 ≤ s.2.2.2.2.1 ∧ s.2.2.2.2.1 ≤ 4) ∧ (-1 ≤ s.2.2.2.2.2 ∧ s.2.2.2.2.2 ≤ 4) ∧ (s.1 = 0 → s.2.1 = -1)
theorem jg_w_b (A : ab_SG) (s : jg_T) (p n : Int) : 0 ≤ jg_w A s p n ∧ jg_w A s p n ≤ 4 := by
  unfold jg_w
  split
  · decide
  · split
    · decide
    · split
      · split <;> decide
      · split <;> split <;> decide
theorem jg_1B {A : ab_SG} {s : jg_T} {i p n : Int} (h : jg_B s) (hi : 1 ≤ i ∧ i ≤ 400) (hp : 0 ≤ p ∧ p < 5) (hn : 0 ≤ n ∧ n ≤ 9) : jg_B (jg_1 A s i p n) := by
  have w := jg_w_b A s p n
  unfold jg_1
  split
  · exact h
  · rename_i c
    obtain ⟨h1, h2, h3, h4, h5, h6, h7⟩ := h
    split
    · rename_i d
      exact ⟨w, ⟨(show -1 ≤ i by omega), hi.2⟩, h3, h4, h5, h6, fun z => absurd z d⟩
    · split
      · exact ⟨⟨Int.le_refl 0, (show (0 : Int) ≤ 4 by decide)⟩, h2, h3, h4, ⟨(show -1 ≤ p by omega), (show p ≤ 4 by omega)⟩, ⟨Int.le_refl _, (show (-1 : Int) ≤ 4 by decide)⟩, fun _ => h7 (by omega)⟩
      · exact ⟨⟨Int.le_refl 0, (show (0 : Int) ≤ 4 by decide)⟩, h2, hn, ⟨(show -1 ≤ p by omega), (show p ≤ 4 by omega)⟩, h5, h4, fun _ => h7 (by omega)⟩
theorem jg_nB {A : ab_SG} (hi : RI A) {e : tk_E} : ∀ i : Nat, i ≤ 400 → (∀ j : Nat, j < i → (ev_g A e (ev_q e j)).1 = 0) → jg_B (jg_n A e i) := by
  intro i
  induction i with
  | zero =>
    intro _ _
    exact ⟨⟨Int.le_refl 0, (show (0 : Int) ≤ 4 by decide)⟩, ⟨Int.le_refl _, (show (-1 : Int) ≤ 400 by decide)⟩, ⟨Int.le_refl 0, (show (0 : Int) ≤ 9 by decide)⟩, ⟨Int.le_refl _, (show (-1 : Int) ≤ 4 by decide)⟩, ⟨Int.le_refl _, (show (-1 : Int) ≤ 4 by decide)⟩, ⟨Int.le_refl _, (show (-1 : Int) ≤ 4 by decide)⟩, fun _ => rfl⟩
  | succ i ih =>
    intro h1 h2
    have b := ev_b hi (h2 i (Nat.lt_succ_self i))
    rw [jg_ns]
    exact jg_1B (ih (by omega) (fun j hj => h2 j (by omega))) ⟨by omega, by omega⟩ b.1 b.2
theorem jg_stay {A : ab_SG} {e : tk_E} {i : Nat} (h : (jg_n A e i).1 ≠ 0) : ∀ k : Nat, jg_n A e (i + k) = jg_n A e i := by
  intro k
  induction k with
  | zero => rfl
  | succ k ih =>
    rw [← Nat.add_assoc, jg_ns, ih]
    unfold jg_1
    rw [if_pos h]
/-! the class's tape at a token -/
def eD (σ : ab_SG) (e : tk_E) (p : Nat) : Prop := eT σ = e ∧ st_is σ (tk e p) ∧ p ≤ e.2.1 ∧ (0 ≤ σ 1 1 ∧ σ 1 1 ≤ 940 ∧ 0 ≤ σ 1 2 ∧ σ 1 2 ≤ 940) ∧ σ 1 9 = 0
theorem ev_up {M N : ab_ML} {σ σ' : ab_SG} (h : ab_okM M σ σ') (hm : M.all (fun q => N.any (fun r => r.1.beq q.1 && (r.2.beq q.2 || r.2.beq 1000000))) = true) : ab_okM N σ σ' := by
  intro a b q
  refine h a b (fun r hr w => ?_)
  obtain ⟨t, ht, h2⟩ := List.any_eq_true.mp (List.all_eq_true.mp hm r hr)
  rw [Bool.and_eq_true, Bool.or_eq_true] at h2
  refine q t ht ⟨(Nat.eq_of_beq_eq_true h2.1).trans w.1, ?_⟩
  rcases h2.2 with e | e
  · rw [Nat.eq_of_beq_eq_true e]; exact w.2
  · exact Or.inr (Nat.eq_of_beq_eq_true e)
theorem ev_tr {M : ab_ML} {σ σ1 σ2 : ab_SG} (h1 : ab_okM M σ σ1) (h2 : ab_okM M σ1 σ2) : ab_okM M σ σ2 := fun a b q => (h2 a b q).trans (h1 a b q)
theorem ev_NC {M : ab_ML} {σ σ' A : ab_SG} (h : ab_okM M σ σ') (m : rc_b M 3 = true) (hN : NC σ A) : NC σ' A := ⟨hN.1, hN.2.1, cn_cg hN.1 (cb_M h m) hN.2.2⟩
def ed_no (σ : ab_SG) (f pl : Int) (K : fw_KR) (v : Int) : Prop := ∀ σ' : ab_SG, ab_okM [(1, 9), (1, 10)] σ σ' → σ' 1 9 = f → σ' 1 10 = pl → K (some (0, 0, v)) σ'
section
variable {σ A : ab_SG} {e : tk_E} {p : Nat}
theorem eD.kind (h : eD σ e p) : σ 1 5 = (tk e p).1 ∧ fw_c (σ 1 5) = (tk e p).1 := by
  obtain ⟨-, hk, -⟩ := h
  have := (tk_can e p).1
  rw [hk.1]
  exact ⟨rfl, fw_c_id (by omega) (by omega)⟩
theorem eD.kw (h : eD σ e p) : σ 1 7 = tw e p ∧ -1 ≤ σ 1 7 ∧ σ 1 7 ≤ 16 := by
  obtain ⟨-, hk, -⟩ := h
  have e1 : σ 1 7 = tw e p := by
    unfold tw
    by_cases q : (tk e p).1 = 2
    · rw [if_pos q]; exact (hk.2.2.2.1 q).2
    · rw [if_neg q]; exact hk.2.2.2.2.1 q
  refine ⟨e1, ?_⟩
  rw [e1]
  unfold tw
  split
  · rcases kw_of_in 17 (tk e p).2.2.2.1 (-1) with g | g
    · rw [g]; decide
    · omega
  · decide
theorem eD.st (h : eD σ e p) : st_pre σ ∧ ∀ σ' : ab_SG, ab_okM st_M σ σ' → st_is σ' (st_nx σ) → eD σ' e (tn e p) := by
  obtain ⟨he, hk, hp, hb, h9⟩ := h
  have e3 : σ 1 3 = ((tn e p : Nat) : Int) := hk.2.2.1
  have hn := tn_le hp
  have en : e.2.1 = (σ 1 1).toNat := by rw [← he]; rfl
  refine ⟨⟨by omega, by omega, hb.2.1, hb.2.2.1, hb.2.2.2⟩, fun σ' hM hs => ⟨?_, ?_, hn.2, ?_, (hM 1 9 (by decide)).trans h9⟩⟩
  · rw [← he]
    unfold eT
    rw [tp_t_M hM (by decide), hM 1 1 (by decide), hM 1 2 (by decide)]
  · have e4 : st_nx σ = tk e (tn e p) := by
      rw [← he]
      unfold st_nx tk eT
      rw [e3, Int.toNat_natCast, ← he]
      rfl
    rw [← e4]
    exact hs
  · rw [hM 1 1 (by decide), hM 1 2 (by decide)]
    exact hb
theorem eD.M (h : eD σ e p) {M : ab_ML} {σ' : ab_SG} (hM : ab_okM M σ σ') (h1 : M.all (fun q => !(q.1.beq 1)) = true) (h2 : M.all (fun q => !(q.1.beq 2)) = true) : eD σ' e p := by
  obtain ⟨he, hk, hp, hb, h9⟩ := h
  have r : ∀ j : Nat, σ' 1 j = σ 1 j := mk_row hM h1
  refine ⟨?_, ?_, hp, ?_, (r 9).trans h9⟩
  · rw [← he]
    unfold eT
    rw [tp_t_M hM h2, r, r]
  · unfold st_is
    rw [r, r, r, r, r, r]
    exact hk
  · rw [r, r]
    exact hb
theorem eD.rf (h : eD σ e p) {x : Int} (hx : 0 ≤ x ∧ x ≤ 9) {K : fw_KR} {v : Int} (hn : ed_no σ x (ev_st e p) K v) : K (some (0, 0, v)) (tp_rf σ x) := by
  obtain ⟨-, hk, -⟩ := h
  refine hn _ (fw_okM_ups (fw_okM_ups (fw_okM_refl _ _) (by decide)) (by decide)) ?_ ?_
  · unfold tp_rf
    rw [ab_ups_ne (by decide), ab_ups_eq]
    exact fw_s (by omega) (by omega)
  · unfold tp_rf
    rw [ab_ups_eq, hk.2.1]
    rfl
theorem eD.num (h : eD σ e p) {a b : Int} {K : fw_KR} (hab : 0 ≤ a ∧ a ≤ 24 ∧ 0 ≤ b ∧ b ≤ 24) (h0 : pr_nm e p a b ≠ 0 → ed_no σ (pr_nm e p a b) (ev_st e p) K 0) (h1 : pr_nm e p a b = 0 → σ 1 8 = (tk e p).2.2.2.2 → a ≤ (tk e p).2.2.2.2 → (tk e p).2.2.2.2 ≤ b → K (some (0, 0, 1)) σ) :
    sp_needNumber [(2, 1, 0), (0, 0, a), (0, 0, b)] σ K := by
  have hk := h.kind
  have hc := tk_can e p
  have ea : fw_c a = a := fw_c_id (by omega) (by omega)
  have eb : fw_c b = b := fw_c_id (by omega) (by omega)
  refine ⟨a, b, rfl, ?_⟩
  rw [hk.2, ea, eb]
  unfold pr_nm at h0 h1
  refine ⟨fun q => ?_, fun q q2 => ?_, fun q q2 => ?_⟩
  · rw [if_neg q] at h0
    exact h.rf (by decide) (h0 (by decide))
  · have e8 : σ 1 8 = (tk e p).2.2.2.2 := h.2.1.2.2.2.2.2 q
    rw [e8, hc.2.2 q] at q2
    rw [if_pos q, if_neg q2] at h0
    exact h.rf (by decide) (h0 (by decide))
  · have e8 : σ 1 8 = (tk e p).2.2.2.2 := h.2.1.2.2.2.2.2 q
    rw [e8, hc.2.2 q] at q2
    rw [if_pos q, if_pos q2] at h1
    exact h1 rfl e8 q2.1 q2.2
theorem eD.word (h : eD σ e p) (q : (tk e p).1 = 2) : σ 1 6 = pr_wd e p ∧ fw_d (σ 1 6) = σ 1 6 := by
  have e6 : σ 1 6 = pr_wd e p := (h.2.1.2.2.2.1 q).1
  refine ⟨e6, ?_⟩
  rw [e6]
  exact (tk_can e p).2.1 q
theorem eD.name (h : eD σ e p) : (fw_c (σ 1 5) = 2 ∧ σ 1 7 < 0) ↔ ((tk e p).1 = 2 ∧ tw e p < 0) := by rw [h.kind.2, h.kw.1]
theorem eD.isw (h : eD σ e p) {x : Int} (hx : 0 ≤ x) : (fw_c (σ 1 5) = 2 ∧ σ 1 7 = x) ↔ tw e p = x := by
  rw [h.kind.2, h.kw.1]
  exact ⟨fun z => z.2, fun z => ⟨ev_tk (by omega), z⟩⟩
theorem eD.sign (h : eD σ e p) {K : fw_KR} (h0 : (tk e p).1 ≠ 59 → ed_no σ 1 (ev_st e p) K 0) (h1 : (tk e p).1 = 59 → ∀ σ' : ab_SG, ab_okM st_M σ σ' → eD σ' e (tn e p) → K (some (0, 0, 1)) σ') : sp_takeSign [(2, 1, 0), (0, 0, 59)] σ K := by
  have c59 : fw_c 59 = 59 := fw_s (by decide) (by decide)
  refine ⟨59, rfl, ?_, ?_⟩
  · rw [h.kind.2, c59]
    exact fun z => h.rf (by decide) (h0 z)
  · rw [h.kind.2, c59]
    exact fun z => ⟨h.st.1, fun σ' M S => h1 z σ' M (h.st.2 σ' M S)⟩
def rw_N : List (Nat × Nat) := [(12, 6), (13, 5)]
def rw_V : List (Nat × Nat) := [(70, 128), (71, 128)]
def sp_seekn : fw_SP := sp_of seek_k rw_N
def sp_atv : fw_SP := sp_of at_k rw_V
def sp_putv : fw_SP := sp_of put_k rw_V
/-- names of the studio that is now: row k, told in row k9 of A -/
theorem eD.seek (h : eD σ e p) {k k9 n : Nat} {x : Int} {K : fw_KR} (hkn : (k, n) ∈ rw_N) (hx : 0 ≤ x ∧ x ≤ (n : Int)) (hr : ∀ j : Nat, (j : Int) < x → σ k j = A k9 j ∧ fw_d (A k9 j) = A k9 j) (h0 : pr_sk A e k9 x p ≠ 0 → ed_no σ (pr_sk A e k9 x p) (ev_st e p) K (-1)) (h1 : pr_sk A e k9 x p = 0 → K (some (0, 0, pr_ix A e k9 x p)) σ) :
    sp_seekn [(2, 1, 0), (2, k, 0), (0, 0, x)] σ K := by
  have hN := h.name
  have hc : rw_fd (σ k) (pr_wd e p) x.toNat 0 = pr_ix A e k9 x p := rw_cong x.toNat 0 (fun j _ hj => (hr j (by omega)).1)
  refine ⟨(k, n), hkn, x, rfl, hx, fun j hj => by rw [(hr j hj).1]; exact (hr j hj).2, fun q => (h.word (hN.mp q).1).2, fun q => ?_, fun q q2 => ?_, fun q q2 => ?_⟩
  · unfold pr_sk at h0
    rw [if_neg (fun z => q (hN.mpr z))] at h0
    exact h.rf (by decide) (h0 (by decide))
  · have hq := hN.mp q
    rw [(h.word hq.1).1, hc] at q2
    unfold pr_sk at h0
    rw [if_pos hq, if_pos q2] at h0
    exact h.rf (by decide) (h0 (by decide))
  · have hq := hN.mp q
    rw [(h.word hq.1).1, hc] at q2 ⊢
    unfold pr_sk at h1
    rw [if_pos hq, if_neg (show ¬ pr_ix A e k9 x p < 0 by omega)] at h1
    exact h1 rfl
theorem eD.seek12 (h : eD σ e p) (hN : NC σ A) {K : fw_KR} (h0 : pr_sk A e 58 (A 49 12) p ≠ 0 → ed_no σ (pr_sk A e 58 (A 49 12) p) (ev_st e p) K (-1)) (h1 : pr_sk A e 58 (A 49 12) p = 0 → K (some (0, 0, pr_ix A e 58 (A 49 12) p)) σ) : sp_seekn [(2, 1, 0), (2, 12, 0), (0, 0, σ 3 12)] σ K := by
  have hi := hN.1
  rw [show σ 3 12 = A 49 12 from hN.2.2.2.1]
  exact h.seek (n := 6) (by decide) ⟨hi.2.1.1, hi.2.1.2⟩ (fun j hj => ⟨(hN.2.2.2.2.2.2.2.1 j hj).2, hi.2.2.2.2.1 j (by omega)⟩) h0 h1
theorem eD.seek13 (h : eD σ e p) (hN : NC σ A) {K : fw_KR} (h0 : pr_sk A e 59 (A 49 13) p ≠ 0 → ed_no σ (pr_sk A e 59 (A 49 13) p) (ev_st e p) K (-1)) (h1 : pr_sk A e 59 (A 49 13) p = 0 → K (some (0, 0, pr_ix A e 59 (A 49 13) p)) σ) : sp_seekn [(2, 1, 0), (2, 13, 0), (0, 0, σ 3 13)] σ K := by
  have hi := hN.1
  rw [show σ 3 13 = A 49 13 from hN.2.2.2.2.1]
  exact h.seek (n := 5) (by decide) ⟨hi.2.2.1.1, hi.2.2.1.2⟩ (fun j hj => ⟨hN.2.2.2.2.2.2.2.2.2.2.1 j hj, hi.2.2.2.2.2.1 j (by omega)⟩) h0 h1
end
def el_M : ab_ML := (69, 3) :: (70, 1000000) :: (71, 1000000) :: st_M
def sp_evLine : fw_SP := fun as σ K => ∃ (A : ab_SG) (e : tk_E) (p i : Nat), as = [(2, 69, 0), (2, 1, 0), (2, 3, 0)] ∧ NC σ A ∧ eD σ e p ∧ σ 69 3 = (i : Int) ∧ (pr_sk A e 59 (A 49 13) p = 0 → i < 128) ∧
  (pr_sk A e 59 (A 49 13) p ≠ 0 → ed_no σ (pr_sk A e 59 (A 49 13) p) (ev_st e p) K 0) ∧
  (pr_sk A e 59 (A 49 13) p = 0 → tw e (tn e p) ≠ 6 → pr_nm e (tn e p) 1 9 ≠ 0 → ∀ σ' : ab_SG, ab_okM ((1, 9) :: (1, 10) :: el_M) σ σ' → σ' 1 9 = pr_nm e (tn e p) 1 9 → σ' 1 10 = ev_st e (tn e p) → K (some (0, 0, 0)) σ') ∧
  (pr_sk A e 59 (A 49 13) p = 0 → (tw e (tn e p) = 6 ∨ pr_nm e (tn e p) 1 9 = 0) → ∀ σ' : ab_SG, ab_okM el_M σ σ' → eD σ' e (tn e (tn e p)) → σ' 69 3 = ((i + 1 : Nat) : Int) → (∀ j : Nat, j ≠ i → σ' 70 j = σ 70 j ∧ σ' 71 j = σ 71 j) → σ' 70 i = ev_p A e p → σ' 71 i = ev_w e p → K (some (0, 0, 1)) σ')
def er_M : ab_ML := (1, 2) :: (1, 9) :: (1, 10) :: (69, 3) :: (69, 4) :: (70, 1000000) :: (71, 1000000) :: st_M
/-- the lines are laid -/
def eL (σ A : ab_SG) (e : tk_E) (n : Nat) : Prop := σ 69 3 = (n : Int) ∧ ∀ j : Nat, j < n → σ 70 j = ev_p A e (ev_q e j) ∧ σ 71 j = ev_w e (ev_q e j)
def sp_evRead : fw_SP := fun as σ K => ∃ A : ab_SG, as = [(2, 69, 0), (2, 1, 0), (2, 3, 0)] ∧ (0 ≤ σ 1 1 ∧ σ 1 1 ≤ 940) ∧ NC σ A ∧
  ((ev_r A (tp_t σ, (σ 1 1).toNat, 400)).1 ≠ 0 → ∀ σ' : ab_SG, ab_okM er_M σ σ' → σ' 1 9 = (ev_r A (tp_t σ, (σ 1 1).toNat, 400)).1 → σ' 1 10 = (ev_r A (tp_t σ, (σ 1 1).toNat, 400)).2.1 → K (some (0, 0, 0)) σ') ∧
  ((ev_r A (tp_t σ, (σ 1 1).toNat, 400)).1 = 0 → ∀ σ' : ab_SG, ab_okM er_M σ σ' → σ' 1 9 = 0 → eL σ' A (tp_t σ, (σ 1 1).toNat, 400) (ev_r A (tp_t σ, (σ 1 1).toNat, 400)).2.2 → (ev_r A (tp_t σ, (σ 1 1).toNat, 400)).2.2 ≤ 128 → σ' 69 4 = ev_c A (tp_t σ, (σ 1 1).toNat, 400) → K (some (0, 0, 1)) σ')
def jc_is (σ : ab_SG) (s : jg_T) : Prop := σ 72 0 = s.1 ∧ σ 72 1 = s.2.2.1 ∧ σ 72 2 = s.2.2.2.1 ∧ σ 72 3 = s.2.2.2.2.1 ∧ σ 72 4 = s.2.2.2.2.2
def sp_whyWrong : fw_SP := fun as σ K => ∃ (A : ab_SG) (s : jg_T) (p n : Int), as = [(2, 69, 0), (0, 0, p), (0, 0, n), (0, 0, A 49 14)] ∧ (σ 72 1 = s.2.2.1 ∧ σ 72 2 = s.2.2.2.1 ∧ σ 72 3 = s.2.2.2.2.1 ∧ σ 72 4 = s.2.2.2.2.2) ∧ jg_B s ∧ (0 ≤ p ∧ p < 5) ∧ (0 ≤ n ∧ n ≤ 9) ∧ (1 ≤ A 49 14 ∧ A 49 14 ≤ 9) ∧ K (some (0, 0, jg_w A s p n)) σ
def jd_M : ab_ML := [(69, 5), (69, 6), (69, 7), (72, 1000000)]
def sp_judge : fw_SP := fun as σ K => ∃ (A : ab_SG) (e : tk_E) (n : Nat), as = [(2, 69, 0), (2, 3, 0)] ∧ NC σ A ∧ eL σ A e n ∧ n ≤ 128 ∧ (∀ j : Nat, j < n → (ev_g A e (ev_q e j)).1 = 0) ∧
  ∀ σ' : ab_SG, ab_okM jd_M σ σ' → jc_is σ' (jg_n A e n) → σ' 69 5 = fw_c (σ 69 4) → σ' 69 6 = fw_c (σ 3 15) → σ' 69 7 = 1 → K (some (0, 0, (jg_n A e n).2.1)) σ'
def ef_M : ab_ML := (1, 1) :: er_M
def en_M : ab_ML := (69, 5) :: (69, 6) :: (69, 7) :: (72, 1000000) :: ef_M
def sp_evening : fw_SP := fun as σ K => ∃ A : ab_SG, as = [(2, 0, 0)] ∧ (0 ≤ σ 1 1 ∧ σ 1 1 ≤ 940) ∧ NC σ A ∧
  ((ev_r A (tp_t σ, (σ 1 1).toNat, 400)).1 ≠ 0 → ∀ σ' : ab_SG, ab_okM ef_M σ σ' → σ' 1 1 = 0 → σ' 1 9 = (ev_r A (tp_t σ, (σ 1 1).toNat, 400)).1 → K (some (0, 0, v_ev A (tp_t σ, (σ 1 1).toNat, 400))) σ') ∧
  ((ev_r A (tp_t σ, (σ 1 1).toNat, 400)).1 = 0 → ∀ σ' : ab_SG, ab_okM en_M σ σ' → σ' 1 1 = 0 → σ' 1 9 = 0 → jc_is σ' (jg_n A (tp_t σ, (σ 1 1).toNat, 400) (ev_r A (tp_t σ, (σ 1 1).toNat, 400)).2.2) → σ' 69 5 = ev_c A (tp_t σ, (σ 1 1).toNat, 400) → σ' 69 6 = fw_c (σ 3 15) → σ' 69 7 = 1 → K (some (0, 0, v_ev A (tp_t σ, (σ 1 1).toNat, 400))) σ')
abbrev fk_at70 : List fw_CR := []
abbrev st_at70 : fw_K → fw_KR → fw_K := fw_st vwCl nn_sh nn_kd fw_kv fw_wc (nn_KI1.map (fun x => x.1)) (nn_KJ1.map (fun x => x.1)) (nn_PF1.map (fun x => x.1)) (nn_PS1.map (fun x => x.1)) fk_at70 0 nn_dt29 2 0
theorem fs_at70_0 {G : fw_K} {R : fw_KR} (hG : fw_cls st_at70 R G) {x : Int} {σ : ab_SG} (h : (fw_c x < 0 → R (some (0, 0, 0)) σ) ∧ (0 ≤ fw_c x → (fw_c ((128 : Nat) : Int) ≤ fw_c x → R (some (0, 0, 0)) σ) ∧ (fw_c x < fw_c ((128 : Nat) : Int) → (0 ≤ fw_c x ∧ fw_c x < ((128 : Nat) : Int)) ∧ (R (some (0, 0, σ 70 (fw_c x).toNat)) σ)))) : G 0 [some (2, 70, 0), some (0, 0, x)] [] σ := fw_on hG [] 200 h
abbrev fk_at71 : List fw_CR := []
abbrev st_at71 : fw_K → fw_KR → fw_K := fw_st vwCl nn_sh nn_kd fw_kv fw_wc (nn_KI1.map (fun x => x.1)) (nn_KJ1.map (fun x => x.1)) (nn_PF1.map (fun x => x.1)) (nn_PS1.map (fun x => x.1)) fk_at71 0 nn_dt29 2 0
theorem fs_at71_0 {G : fw_K} {R : fw_KR} (hG : fw_cls st_at71 R G) {x : Int} {σ : ab_SG} (h : (fw_c x < 0 → R (some (0, 0, 0)) σ) ∧ (0 ≤ fw_c x → (fw_c ((128 : Nat) : Int) ≤ fw_c x → R (some (0, 0, 0)) σ) ∧ (fw_c x < fw_c ((128 : Nat) : Int) → (0 ≤ fw_c x ∧ fw_c x < ((128 : Nat) : Int)) ∧ (R (some (0, 0, σ 71 (fw_c x).toNat)) σ)))) : G 0 [some (2, 71, 0), some (0, 0, x)] [] σ := fw_on hG [] 200 h
abbrev fk_put70 : List fw_CR := []
abbrev st_put70 : fw_K → fw_KR → fw_K := fw_st vwCl nn_sh nn_kd fw_kv fw_wc (nn_KI1.map (fun x => x.1)) (nn_KJ1.map (fun x => x.1)) (nn_PF1.map (fun x => x.1)) (nn_PS1.map (fun x => x.1)) fk_put70 0 nn_dt27 3 4
theorem fs_put70_0 {G : fw_K} {R : fw_KR} (hG : fw_cls st_put70 R G) {x v : Int} {σ : ab_SG} (h : (fw_c x < 0 → R none σ) ∧ (0 ≤ fw_c x → (fw_c ((128 : Nat) : Int) ≤ fw_c x → R none σ) ∧ (fw_c x < fw_c ((128 : Nat) : Int) → (0 ≤ fw_c x ∧ fw_c x < ((128 : Nat) : Int)) ∧ True ∧ (R none (ab_ups σ 70 (fw_c x).toNat (fw_c v)))))) : G 0 [some (2, 70, 0), some (0, 0, x), some (0, 0, v)] [] σ := fw_on hG [] 200 h
abbrev fk_put71 : List fw_CR := []
abbrev st_put71 : fw_K → fw_KR → fw_K := fw_st vwCl nn_sh nn_kd fw_kv fw_wc (nn_KI1.map (fun x => x.1)) (nn_KJ1.map (fun x => x.1)) (nn_PF1.map (fun x => x.1)) (nn_PS1.map (fun x => x.1)) fk_put71 0 nn_dt27 3 4
theorem fs_put71_0 {G : fw_K} {R : fw_KR} (hG : fw_cls st_put71 R G) {x v : Int} {σ : ab_SG} (h : (fw_c x < 0 → R none σ) ∧ (0 ≤ fw_c x → (fw_c ((128 : Nat) : Int) ≤ fw_c x → R none σ) ∧ (fw_c x < fw_c ((128 : Nat) : Int) → (0 ≤ fw_c x ∧ fw_c x < ((128 : Nat) : Int)) ∧ True ∧ (R none (ab_ups σ 71 (fw_c x).toNat (fw_c v)))))) : G 0 [some (2, 71, 0), some (0, 0, x), some (0, 0, v)] [] σ := fw_on hG [] 200 h
abbrev fk_seek12 : List fw_CR := [(87, 0, true, 8, 0, sp_isName), (91, 1, true, 8, 0, sp_refuse)]
abbrev st_seek12 : fw_K → fw_KR → fw_K := fw_st vwCl nn_sh nn_kd fw_kv fw_wc (nn_KI2.map (fun x => x.1)) (nn_KJ2.map (fun x => x.1)) (nn_PF2.map (fun x => x.1)) (nn_PS2.map (fun x => x.1)) fk_seek12 1 nn_dt33 4 0
theorem fs_seek12_0 {G : fw_K} {R : fw_KR} (hG : fw_cls st_seek12 R G) {x : Int} {σ : ab_SG} (h : sp_isName [(2, 1, 0)] σ (fun rv σ2 => G 4 [some (2, 1, 0), some (2, 12, 0), some (0, 0, x), none] (rv.toList ++ []) σ2)) : G 0 [some (2, 1, 0), some (2, 12, 0), some (0, 0, x), none] [] σ := fw_on hG [4, 12, 17, 47, 52] 200 h
theorem fs_seek12_4 {G : fw_K} {R : fw_KR} (hG : fw_cls st_seek12 R G) {a2 b0 : Int} {σ : ab_SG} (h : (fw_c b0 ≠ 0 → G 17 [some (2, 1, 0), some (2, 12, 0), some (0, 0, a2), some (0, 0, 0)] [] σ) ∧ (fw_c b0 = 0 → sp_refuse [(2, 1, 0), (0, 0, 1)] σ (fun rv σ2 => G 12 [some (2, 1, 0), some (2, 12, 0), some (0, 0, a2), none] (rv.toList ++ []) σ2))) : G 4 [some (2, 1, 0), some (2, 12, 0), some (0, 0, a2), none] [(0, 0, b0)] σ := fw_on hG [4, 12, 17, 47, 52] 200 h
theorem fs_seek12_17 {G : fw_K} {R : fw_KR} (hG : fw_cls st_seek12 R G) {a2 a3 : Int} {σ : ab_SG} (h : (fw_c a2 ≤ fw_c a3 → G 47 [some (2, 1, 0), some (2, 12, 0), some (0, 0, a2), some (0, 0, a3)] [] σ) ∧ (fw_c a3 < fw_c a2 → (fw_c ((6 : Nat) : Int) ≤ fw_c a3 → G 47 [some (2, 1, 0), some (2, 12, 0), some (0, 0, a2), some (0, 0, a3)] [] σ) ∧ (fw_c a3 < fw_c ((6 : Nat) : Int) → (0 ≤ fw_c a3 ∧ fw_c a3 < ((6 : Nat) : Int)) ∧ ((fw_d (σ 12 (fw_c a3).toNat) ≠ fw_d (σ 1 6) → G 17 [some (2, 1, 0), some (2, 12, 0), some (0, 0, a2), some (0, 0, a3 + 1)] [] σ) ∧ (fw_d (σ 12 (fw_c a3).toNat) = fw_d (σ 1 6) → R (some (0, 0, a3)) σ))))) : G 17 [some (2, 1, 0), some (2, 12, 0), some (0, 0, a2), some (0, 0, a3)] [] σ := fw_on hG [4, 12, 17, 47, 52] 200 h
theorem fs_seek12_12 {G : fw_K} {R : fw_KR} (hG : fw_cls st_seek12 R G) {a2 b0 : Int} {σ : ab_SG} (h : R (some (0, 0, (-1))) σ) : G 12 [some (2, 1, 0), some (2, 12, 0), some (0, 0, a2), none] [(0, 0, b0)] σ := fw_on hG [4, 12, 17, 47, 52] 200 h
theorem fs_seek12_47 {G : fw_K} {R : fw_KR} (hG : fw_cls st_seek12 R G) {a2 a3 : Int} {σ : ab_SG} (h : sp_refuse [(2, 1, 0), (0, 0, 3)] σ (fun rv σ2 => G 52 [some (2, 1, 0), some (2, 12, 0), some (0, 0, a2), some (0, 0, a3)] (rv.toList ++ []) σ2)) : G 47 [some (2, 1, 0), some (2, 12, 0), some (0, 0, a2), some (0, 0, a3)] [] σ := fw_on hG [4, 12, 17, 47, 52] 200 h
theorem fs_seek12_52 {G : fw_K} {R : fw_KR} (hG : fw_cls st_seek12 R G) {a2 a3 b0 : Int} {σ : ab_SG} (h : R (some (0, 0, (-1))) σ) : G 52 [some (2, 1, 0), some (2, 12, 0), some (0, 0, a2), some (0, 0, a3)] [(0, 0, b0)] σ := fw_on hG [4, 12, 17, 47, 52] 200 h
abbrev fk_seek13 : List fw_CR := [(87, 0, true, 8, 0, sp_isName), (91, 1, true, 8, 0, sp_refuse)]
abbrev st_seek13 : fw_K → fw_KR → fw_K := fw_st vwCl nn_sh nn_kd fw_kv fw_wc (nn_KI2.map (fun x => x.1)) (nn_KJ2.map (fun x => x.1)) (nn_PF2.map (fun x => x.1)) (nn_PS2.map (fun x => x.1)) fk_seek13 1 nn_dt33 4 0
theorem fs_seek13_0 {G : fw_K} {R : fw_KR} (hG : fw_cls st_seek13 R G) {x : Int} {σ : ab_SG} (h : sp_isName [(2, 1, 0)] σ (fun rv σ2 => G 4 [some (2, 1, 0), some (2, 13, 0), some (0, 0, x), none] (rv.toList ++ []) σ2)) : G 0 [some (2, 1, 0), some (2, 13, 0), some (0, 0, x), none] [] σ := fw_on hG [4, 12, 17, 47, 52] 200 h
theorem fs_seek13_4 {G : fw_K} {R : fw_KR} (hG : fw_cls st_seek13 R G) {a2 b0 : Int} {σ : ab_SG} (h : (fw_c b0 ≠ 0 → G 17 [some (2, 1, 0), some (2, 13, 0), some (0, 0, a2), some (0, 0, 0)] [] σ) ∧ (fw_c b0 = 0 → sp_refuse [(2, 1, 0), (0, 0, 1)] σ (fun rv σ2 => G 12 [some (2, 1, 0), some (2, 13, 0), some (0, 0, a2), none] (rv.toList ++ []) σ2))) : G 4 [some (2, 1, 0), some (2, 13, 0), some (0, 0, a2), none] [(0, 0, b0)] σ := fw_on hG [4, 12, 17, 47, 52] 200 h
theorem fs_seek13_17 {G : fw_K} {R : fw_KR} (hG : fw_cls st_seek13 R G) {a2 a3 : Int} {σ : ab_SG} (h : (fw_c a2 ≤ fw_c a3 → G 47 [some (2, 1, 0), some (2, 13, 0), some (0, 0, a2), some (0, 0, a3)] [] σ) ∧ (fw_c a3 < fw_c a2 → (fw_c ((5 : Nat) : Int) ≤ fw_c a3 → G 47 [some (2, 1, 0), some (2, 13, 0), some (0, 0, a2), some (0, 0, a3)] [] σ) ∧ (fw_c a3 < fw_c ((5 : Nat) : Int) → (0 ≤ fw_c a3 ∧ fw_c a3 < ((5 : Nat) : Int)) ∧ ((fw_d (σ 13 (fw_c a3).toNat) ≠ fw_d (σ 1 6) → G 17 [some (2, 1, 0), some (2, 13, 0), some (0, 0, a2), some (0, 0, a3 + 1)] [] σ) ∧ (fw_d (σ 13 (fw_c a3).toNat) = fw_d (σ 1 6) → R (some (0, 0, a3)) σ))))) : G 17 [some (2, 1, 0), some (2, 13, 0), some (0, 0, a2), some (0, 0, a3)] [] σ := fw_on hG [4, 12, 17, 47, 52] 200 h
theorem fs_seek13_12 {G : fw_K} {R : fw_KR} (hG : fw_cls st_seek13 R G) {a2 b0 : Int} {σ : ab_SG} (h : R (some (0, 0, (-1))) σ) : G 12 [some (2, 1, 0), some (2, 13, 0), some (0, 0, a2), none] [(0, 0, b0)] σ := fw_on hG [4, 12, 17, 47, 52] 200 h
theorem fs_seek13_47 {G : fw_K} {R : fw_KR} (hG : fw_cls st_seek13 R G) {a2 a3 : Int} {σ : ab_SG} (h : sp_refuse [(2, 1, 0), (0, 0, 3)] σ (fun rv σ2 => G 52 [some (2, 1, 0), some (2, 13, 0), some (0, 0, a2), some (0, 0, a3)] (rv.toList ++ []) σ2)) : G 47 [some (2, 1, 0), some (2, 13, 0), some (0, 0, a2), some (0, 0, a3)] [] σ := fw_on hG [4, 12, 17, 47, 52] 200 h
theorem fs_seek13_52 {G : fw_K} {R : fw_KR} (hG : fw_cls st_seek13 R G) {a2 a3 b0 : Int} {σ : ab_SG} (h : R (some (0, 0, (-1))) σ) : G 52 [some (2, 1, 0), some (2, 13, 0), some (0, 0, a2), some (0, 0, a3)] [(0, 0, b0)] σ := fw_on hG [4, 12, 17, 47, 52] 200 h
abbrev fk_evLine : List fw_CR := [(37, 1, true, 8, 0, sp_isWord), (45, 0, true, 8, 2, sp_step), (57, 2, true, 8, 1, sp_seekn), (83, 2, true, 8, 1, sp_needNumber), (87, 3, false, 0, 0, sp_putv)]
abbrev st_evLine : fw_K → fw_KR → fw_K := fw_st vwCl nn_sh nn_kd fw_kv fw_wc (nn_KI4.map (fun x => x.1)) (nn_KJ4.map (fun x => x.1)) (nn_PF4.map (fun x => x.1)) (nn_PS4.map (fun x => x.1)) fk_evLine 4 nn_dt154 5 1
theorem fs_evLine_0 {G : fw_K} {R : fw_KR} (hG : fw_cls st_evLine R G) {σ : ab_SG} (h : sp_seekn [(2, 1, 0), (2, 13, 0), (0, 0, σ 3 13)] σ (fun rv σ2 => G 12 [some (2, 69, 0), some (2, 1, 0), some (2, 3, 0), none, none] (rv.toList ++ []) σ2)) : G 0 [some (2, 69, 0), some (2, 1, 0), some (2, 3, 0), none, none] [] σ := fw_on hG [12, 24, 31, 45, 50, 62, 83, 86, 100] 200 h
theorem fs_evLine_12 {G : fw_K} {R : fw_KR} (hG : fw_cls st_evLine R G) {b0 : Int} {o3 o4 : Option ab_AV} {σ : ab_SG} (h : (fw_c b0 ≠ fw_c (-1) → sp_step [(2, 1, 0)] σ (fun rv σ2 => G 24 [some (2, 69, 0), some (2, 1, 0), some (2, 3, 0), some (0, 0, b0), o4] (rv.toList ++ []) σ2)) ∧ (fw_c b0 = fw_c (-1) → (0 ≤ fw_c 0 ∧ fw_c 0 ≤ 1) ∧ R (some (0, 0, 0)) σ)) : G 12 [some (2, 69, 0), some (2, 1, 0), some (2, 3, 0), o3, o4] [(0, 0, b0)] σ := fw_on hG [12, 24, 31, 45, 50, 62, 83, 86, 100] 200 h
theorem fs_evLine_24 {G : fw_K} {R : fw_KR} (hG : fw_cls st_evLine R G) {a3 : Int} {o4 : Option ab_AV} {σ : ab_SG} (h : sp_isWord [(2, 1, 0), (4, 0, 6)] σ (fun rv σ2 => G 31 [some (2, 69, 0), some (2, 1, 0), some (2, 3, 0), some (0, 0, a3), o4] (rv.toList ++ []) σ2)) : G 24 [some (2, 69, 0), some (2, 1, 0), some (2, 3, 0), some (0, 0, a3), o4] [] σ := fw_on hG [12, 24, 31, 45, 50, 62, 83, 86, 100] 200 h
theorem fs_evLine_31 {G : fw_K} {R : fw_KR} (hG : fw_cls st_evLine R G) {a3 b0 : Int} {o4 : Option ab_AV} {σ : ab_SG} (h : (fw_c b0 ≠ 0 → G 50 [some (2, 69, 0), some (2, 1, 0), some (2, 3, 0), some (0, 0, a3), some (0, 0, b0)] [] σ) ∧ (fw_c b0 = 0 → sp_needNumber [(2, 1, 0), (0, 0, 1), (0, 0, 9)] σ (fun rv σ2 => G 45 [some (2, 69, 0), some (2, 1, 0), some (2, 3, 0), some (0, 0, a3), some (0, 0, b0)] (rv.toList ++ []) σ2))) : G 31 [some (2, 69, 0), some (2, 1, 0), some (2, 3, 0), some (0, 0, a3), o4] [(0, 0, b0)] σ := fw_on hG [12, 24, 31, 45, 50, 62, 83, 86, 100] 200 h
theorem fs_evLine_50 {G : fw_K} {R : fw_KR} (hG : fw_cls st_evLine R G) {a3 a4 : Int} {σ : ab_SG} (h : sp_putv [(2, 70, 0), (0, 0, σ 69 3), (0, 0, a3)] σ (fun rv σ2 => G 62 [some (2, 69, 0), some (2, 1, 0), some (2, 3, 0), some (0, 0, a3), some (0, 0, a4)] (rv.toList ++ []) σ2)) : G 50 [some (2, 69, 0), some (2, 1, 0), some (2, 3, 0), some (0, 0, a3), some (0, 0, a4)] [] σ := fw_on hG [12, 24, 31, 45, 50, 62, 83, 86, 100] 200 h
theorem fs_evLine_45 {G : fw_K} {R : fw_KR} (hG : fw_cls st_evLine R G) {a3 a4 b0 : Int} {σ : ab_SG} (h : (fw_c b0 ≠ 0 → G 50 [some (2, 69, 0), some (2, 1, 0), some (2, 3, 0), some (0, 0, a3), some (0, 0, a4)] [] σ) ∧ (fw_c b0 = 0 → (0 ≤ fw_c 0 ∧ fw_c 0 ≤ 1) ∧ R (some (0, 0, 0)) σ)) : G 45 [some (2, 69, 0), some (2, 1, 0), some (2, 3, 0), some (0, 0, a3), some (0, 0, a4)] [(0, 0, b0)] σ := fw_on hG [12, 24, 31, 45, 50, 62, 83, 86, 100] 200 h
theorem fs_evLine_62 {G : fw_K} {R : fw_KR} (hG : fw_cls st_evLine R G) {a4 : Int} {o3 : Option ab_AV} {σ : ab_SG} (h : (fw_c a4 = 0 → G 83 [some (2, 69, 0), some (2, 1, 0), some (2, 3, 0), o3, some (0, 0, a4)] [(0, 0, σ 1 8), (0, 0, σ 69 3), (2, 71, 0)] σ) ∧ (fw_c a4 ≠ 0 → G 83 [some (2, 69, 0), some (2, 1, 0), some (2, 3, 0), o3, some (0, 0, a4)] [(0, 0, 0), (0, 0, σ 69 3), (2, 71, 0)] σ)) : G 62 [some (2, 69, 0), some (2, 1, 0), some (2, 3, 0), o3, some (0, 0, a4)] [] σ := fw_on hG [12, 24, 31, 45, 50, 62, 83, 86, 100] 200 h
theorem fs_evLine_83 {G : fw_K} {R : fw_KR} (hG : fw_cls st_evLine R G) {b0 b1 : Int} {o3 o4 : Option ab_AV} {σ : ab_SG} (h : sp_putv [(2, 71, 0), (0, 0, b1), (0, 0, b0)] σ (fun rv σ2 => G 86 [some (2, 69, 0), some (2, 1, 0), some (2, 3, 0), o3, o4] (rv.toList ++ []) σ2)) : G 83 [some (2, 69, 0), some (2, 1, 0), some (2, 3, 0), o3, o4] [(0, 0, b0), (0, 0, b1), (2, 71, 0)] σ := fw_on hG [12, 24, 31, 45, 50, 62, 83, 86, 100] 200 h
theorem fs_evLine_86 {G : fw_K} {R : fw_KR} (hG : fw_cls st_evLine R G) {o3 o4 : Option ab_AV} {σ : ab_SG} (h : sp_step [(2, 1, 0)] (ab_ups σ 69 3 (fw_c ((σ 69 3) + 1))) (fun rv σ2 => G 100 [some (2, 69, 0), some (2, 1, 0), some (2, 3, 0), o3, o4] (rv.toList ++ []) σ2)) : G 86 [some (2, 69, 0), some (2, 1, 0), some (2, 3, 0), o3, o4] [] σ := fw_on hG [12, 24, 31, 45, 50, 62, 83, 86, 100] 200 h
theorem fs_evLine_100 {G : fw_K} {R : fw_KR} (hG : fw_cls st_evLine R G) {o1 o3 o4 : Option ab_AV} {σ : ab_SG} (h : (0 ≤ fw_c 1 ∧ fw_c 1 ≤ 1) ∧ R (some (0, 0, 1)) σ) : G 100 [some (2, 69, 0), o1, some (2, 3, 0), o3, o4] [] σ := fw_on hG [12, 24, 31, 45, 50, 62, 83, 86, 100] 200 h
abbrev fk_evRead : List fw_CR := [(25, 1, true, 8, 3, sp_opn), (37, 1, true, 8, 0, sp_isWord), (41, 1, true, 8, 0, sp_refuse), (45, 0, true, 8, 2, sp_step), (57, 2, true, 8, 1, sp_seekn), (64, 1, true, 8, 3, sp_takeSign), (70, 2, true, 2, 4, sp_evLine)]
abbrev st_evRead : fw_K → fw_KR → fw_K := fw_st vwCl nn_sh nn_kd fw_kv fw_wc (nn_KI4.map (fun x => x.1)) (nn_KJ4.map (fun x => x.1)) (nn_PF4.map (fun x => x.1)) (nn_PS4.map (fun x => x.1)) fk_evRead 5 nn_dt153 5 1
theorem fs_evRead_0 {G : fw_K} {R : fw_KR} (hG : fw_cls st_evRead R G) {σ : ab_SG} (h : sp_opn [(2, 1, 0), (0, 0, 400)] (ab_ups σ 69 3 (fw_c 0)) (fun rv σ2 => G 12 [some (2, 69, 0), some (2, 1, 0), some (2, 3, 0), none, none] (rv.toList ++ []) σ2)) : G 0 [some (2, 69, 0), some (2, 1, 0), some (2, 3, 0), none, none] [] σ := fw_on hG [12, 19, 27, 32, 45, 62, 68, 72, 97, 106, 113, 114] 200 h
theorem fs_evRead_12 {G : fw_K} {R : fw_KR} (hG : fw_cls st_evRead R G) {o3 o4 : Option ab_AV} {σ : ab_SG} (h : sp_isWord [(2, 1, 0), (4, 0, 1)] σ (fun rv σ2 => G 19 [some (2, 69, 0), some (2, 1, 0), some (2, 3, 0), o3, o4] (rv.toList ++ []) σ2)) : G 12 [some (2, 69, 0), some (2, 1, 0), some (2, 3, 0), o3, o4] [] σ := fw_on hG [12, 19, 27, 32, 45, 62, 68, 72, 97, 106, 113, 114] 200 h
theorem fs_evRead_19 {G : fw_K} {R : fw_KR} (hG : fw_cls st_evRead R G) {b0 : Int} {o3 o4 : Option ab_AV} {σ : ab_SG} (h : (fw_c b0 ≠ 0 → sp_step [(2, 1, 0)] σ (fun rv σ2 => G 32 [some (2, 69, 0), some (2, 1, 0), some (2, 3, 0), o3, o4] (rv.toList ++ []) σ2)) ∧ (fw_c b0 = 0 → sp_refuse [(2, 1, 0), (0, 0, 1)] σ (fun rv σ2 => G 27 [some (2, 69, 0), some (2, 1, 0), some (2, 3, 0), o3, o4] (rv.toList ++ []) σ2))) : G 19 [some (2, 69, 0), some (2, 1, 0), some (2, 3, 0), o3, o4] [(0, 0, b0)] σ := fw_on hG [12, 19, 27, 32, 45, 62, 68, 72, 97, 106, 113, 114] 200 h
theorem fs_evRead_32 {G : fw_K} {R : fw_KR} (hG : fw_cls st_evRead R G) {o3 o4 : Option ab_AV} {σ : ab_SG} (h : sp_seekn [(2, 1, 0), (2, 12, 0), (0, 0, σ 3 12)] σ (fun rv σ2 => G 45 [some (2, 69, 0), some (2, 1, 0), some (2, 3, 0), o3, o4] (rv.toList ++ [(2, 69, 0)]) σ2)) : G 32 [some (2, 69, 0), some (2, 1, 0), some (2, 3, 0), o3, o4] [] σ := fw_on hG [12, 19, 27, 32, 45, 62, 68, 72, 97, 106, 113, 114] 200 h
theorem fs_evRead_27 {G : fw_K} {R : fw_KR} (hG : fw_cls st_evRead R G) {b0 : Int} {o1 o2 o3 o4 : Option ab_AV} {σ : ab_SG} (h : (0 ≤ fw_c b0 ∧ fw_c b0 ≤ 1) ∧ R (some (0, 0, b0)) σ) : G 27 [some (2, 69, 0), o1, o2, o3, o4] [(0, 0, b0)] σ := fw_on hG [12, 19, 27, 32, 45, 62, 68, 72, 97, 106, 113, 114] 200 h
theorem fs_evRead_45 {G : fw_K} {R : fw_KR} (hG : fw_cls st_evRead R G) {b0 : Int} {o3 o4 : Option ab_AV} {σ : ab_SG} (h : (fw_c (fw_c b0) ≠ fw_c (-1) → sp_step [(2, 1, 0)] (ab_ups σ 69 4 (fw_c b0)) (fun rv σ2 => G 62 [some (2, 69, 0), some (2, 1, 0), some (2, 3, 0), o3, o4] (rv.toList ++ []) σ2)) ∧ (fw_c (fw_c b0) = fw_c (-1) → (0 ≤ fw_c 0 ∧ fw_c 0 ≤ 1) ∧ R (some (0, 0, 0)) (ab_ups σ 69 4 (fw_c b0)))) : G 45 [some (2, 69, 0), some (2, 1, 0), some (2, 3, 0), o3, o4] [(0, 0, b0), (2, 69, 0)] σ := fw_on hG [12, 19, 27, 32, 45, 62, 68, 72, 97, 106, 113, 114] 200 h
theorem fs_evRead_62 {G : fw_K} {R : fw_KR} (hG : fw_cls st_evRead R G) {o3 o4 : Option ab_AV} {σ : ab_SG} (h : sp_takeSign [(2, 1, 0), (0, 0, 59)] σ (fun rv σ2 => G 68 [some (2, 69, 0), some (2, 1, 0), some (2, 3, 0), o3, o4] (rv.toList ++ []) σ2)) : G 62 [some (2, 69, 0), some (2, 1, 0), some (2, 3, 0), o3, o4] [] σ := fw_on hG [12, 19, 27, 32, 45, 62, 68, 72, 97, 106, 113, 114] 200 h
theorem fs_evRead_68 {G : fw_K} {R : fw_KR} (hG : fw_cls st_evRead R G) {b0 : Int} {o3 o4 : Option ab_AV} {σ : ab_SG} (h : G 72 [some (2, 69, 0), some (2, 1, 0), some (2, 3, 0), some (0, 0, b0), some (0, 0, 0)] [] σ) : G 68 [some (2, 69, 0), some (2, 1, 0), some (2, 3, 0), o3, o4] [(0, 0, b0)] σ := fw_on hG [12, 19, 27, 32, 45, 62, 68, 72, 97, 106, 113, 114] 200 h
theorem fs_evRead_72 {G : fw_K} {R : fw_KR} (hG : fw_cls st_evRead R G) {a3 a4 : Int} {σ : ab_SG} (h : (fw_c 400 ≤ fw_c a4 → (0 ≤ fw_c a3 ∧ fw_c a3 ≤ 1) ∧ R (some (0, 0, a3)) σ) ∧ (fw_c a4 < fw_c 400 → (fw_c a3 = 0 → (0 ≤ fw_c a3 ∧ fw_c a3 ≤ 1) ∧ R (some (0, 0, a3)) σ) ∧ (fw_c a3 ≠ 0 → (fw_c (σ 1 5) = 0 → (0 ≤ fw_c a3 ∧ fw_c a3 ≤ 1) ∧ R (some (0, 0, a3)) σ) ∧ (fw_c (σ 1 5) ≠ 0 → sp_evLine [(2, 69, 0), (2, 1, 0), (2, 3, 0)] σ (fun rv σ2 => G 97 [some (2, 69, 0), some (2, 1, 0), some (2, 3, 0), some (0, 0, a3), some (0, 0, a4)] (rv.toList ++ []) σ2))))) : G 72 [some (2, 69, 0), some (2, 1, 0), some (2, 3, 0), some (0, 0, a3), some (0, 0, a4)] [] σ := fw_on hG [12, 19, 27, 32, 45, 62, 68, 72, 97, 106, 113, 114] 200 h
theorem fs_evRead_97 {G : fw_K} {R : fw_KR} (hG : fw_cls st_evRead R G) {a4 b0 : Int} {o3 : Option ab_AV} {σ : ab_SG} (h : (fw_c b0 = 0 → G 113 [some (2, 69, 0), some (2, 1, 0), some (2, 3, 0), o3, some (0, 0, a4)] [] σ) ∧ (fw_c b0 ≠ 0 → sp_takeSign [(2, 1, 0), (0, 0, 59)] σ (fun rv σ2 => G 106 [some (2, 69, 0), some (2, 1, 0), some (2, 3, 0), o3, some (0, 0, a4)] (rv.toList ++ []) σ2))) : G 97 [some (2, 69, 0), some (2, 1, 0), some (2, 3, 0), o3, some (0, 0, a4)] [(0, 0, b0)] σ := fw_on hG [12, 19, 27, 32, 45, 62, 68, 72, 97, 106, 113, 114] 200 h
theorem fs_evRead_113 {G : fw_K} {R : fw_KR} (hG : fw_cls st_evRead R G) {a4 : Int} {o3 : Option ab_AV} {σ : ab_SG} (h : G 114 [some (2, 69, 0), some (2, 1, 0), some (2, 3, 0), o3, some (0, 0, a4)] [(0, 0, 0)] σ) : G 113 [some (2, 69, 0), some (2, 1, 0), some (2, 3, 0), o3, some (0, 0, a4)] [] σ := fw_on hG [12, 19, 27, 32, 45, 62, 68, 72, 97, 106, 113, 114] 200 h
theorem fs_evRead_106 {G : fw_K} {R : fw_KR} (hG : fw_cls st_evRead R G) {a4 b0 : Int} {o3 : Option ab_AV} {σ : ab_SG} (h : (fw_c b0 = 0 → G 113 [some (2, 69, 0), some (2, 1, 0), some (2, 3, 0), o3, some (0, 0, a4)] [] σ) ∧ (fw_c b0 ≠ 0 → G 114 [some (2, 69, 0), some (2, 1, 0), some (2, 3, 0), o3, some (0, 0, a4)] [(0, 0, 1)] σ)) : G 106 [some (2, 69, 0), some (2, 1, 0), some (2, 3, 0), o3, some (0, 0, a4)] [(0, 0, b0)] σ := fw_on hG [12, 19, 27, 32, 45, 62, 68, 72, 97, 106, 113, 114] 200 h
theorem fs_evRead_114 {G : fw_K} {R : fw_KR} (hG : fw_cls st_evRead R G) {a4 b0 : Int} {o3 : Option ab_AV} {σ : ab_SG} (h : G 72 [some (2, 69, 0), some (2, 1, 0), some (2, 3, 0), some (0, 0, b0), some (0, 0, a4 + 1)] [] σ) : G 114 [some (2, 69, 0), some (2, 1, 0), some (2, 3, 0), o3, some (0, 0, a4)] [(0, 0, b0)] σ := fw_on hG [12, 19, 27, 32, 45, 62, 68, 72, 97, 106, 113, 114] 200 h
abbrev fk_whyWrong : List fw_CR := []
abbrev st_whyWrong : fw_K → fw_KR → fw_K := fw_st vwCl nn_sh nn_kd fw_kv fw_wc (nn_KI4.map (fun x => x.1)) (nn_KJ4.map (fun x => x.1)) (nn_PF4.map (fun x => x.1)) (nn_PS4.map (fun x => x.1)) fk_whyWrong 0 nn_dt156 6 0
theorem fs_whyWrong_0 {G : fw_K} {R : fw_KR} (hG : fw_cls st_whyWrong R G) {p b f : Int} {σ : ab_SG} (h : (0 ≤ fw_c 3 ∧ fw_c 3 < ((5 : Nat) : Int)) ∧ ((fw_c (σ 72 (fw_c 3).toNat) = fw_c (-1) → (0 ≤ fw_c 4 ∧ fw_c 4 < ((5 : Nat) : Int)) ∧ ((fw_c (σ 72 (fw_c 4).toNat) ≠ fw_c (-1) → (0 ≤ fw_c 4 ∧ fw_c 4 < ((5 : Nat) : Int)) ∧ ((fw_c p = fw_c (σ 72 (fw_c 4).toNat) → G 55 [some (2, 69, 0), some (0, 0, p), some (0, 0, b), some (0, 0, f), none, none] [(0, 0, 0)] σ) ∧ (fw_c p ≠ fw_c (σ 72 (fw_c 4).toNat) → G 55 [some (2, 69, 0), some (0, 0, p), some (0, 0, b), some (0, 0, f), none, none] [(0, 0, 1)] σ))) ∧ (fw_c (σ 72 (fw_c 4).toNat) = fw_c (-1) → (0 ≤ fw_c 2 ∧ fw_c 2 < ((5 : Nat) : Int)) ∧ ((fw_c p ≠ fw_c (σ 72 (fw_c 2).toNat) → G 55 [some (2, 69, 0), some (0, 0, p), some (0, 0, b), some (0, 0, f), none, none] [(0, 0, 0)] σ) ∧ (fw_c p = fw_c (σ 72 (fw_c 2).toNat) → G 55 [some (2, 69, 0), some (0, 0, p), some (0, 0, b), some (0, 0, f), none, none] [(0, 0, 1)] σ))))) ∧ (fw_c (σ 72 (fw_c 3).toNat) ≠ fw_c (-1) → R (some (0, 0, 1)) σ))) : G 0 [some (2, 69, 0), some (0, 0, p), some (0, 0, b), some (0, 0, f), none, none] [] σ := fw_on hG [55, 120] 200 h
theorem fs_whyWrong_55 {G : fw_K} {R : fw_KR} (hG : fw_cls st_whyWrong R G) {a2 a3 b0 : Int} {o1 o5 : Option ab_AV} {σ : ab_SG} (h : (fw_c b0 = 0 → (fw_c a2 ≠ 0 → (0 ≤ fw_c 1 ∧ fw_c 1 < ((5 : Nat) : Int)) ∧ ((fw_c (σ 72 (fw_c 1).toNat) ≠ 0 → (0 ≤ fw_c 1 ∧ fw_c 1 < ((5 : Nat) : Int)) ∧ ((fw_c a2 < fw_c (σ 72 (fw_c 1).toNat) → G 120 [some (2, 69, 0), o1, some (0, 0, a2), some (0, 0, a3), some (0, 0, b0), o5] [(0, 0, 0)] σ) ∧ (fw_c (σ 72 (fw_c 1).toNat) ≤ fw_c a2 → G 120 [some (2, 69, 0), o1, some (0, 0, a2), some (0, 0, a3), some (0, 0, b0), o5] [(0, 0, 1)] σ))) ∧ (fw_c (σ 72 (fw_c 1).toNat) = 0 → (fw_c a2 ≤ fw_c a3 → G 120 [some (2, 69, 0), o1, some (0, 0, a2), some (0, 0, a3), some (0, 0, b0), o5] [(0, 0, 0)] σ) ∧ (fw_c a3 < fw_c a2 → G 120 [some (2, 69, 0), o1, some (0, 0, a2), some (0, 0, a3), some (0, 0, b0), o5] [(0, 0, 1)] σ)))) ∧ (fw_c a2 = 0 → (0 ≤ fw_c 1 ∧ fw_c 1 < ((5 : Nat) : Int)) ∧ ((fw_c (σ 72 (fw_c 1).toNat) ≠ 0 → R (some (0, 0, 0)) σ) ∧ (fw_c (σ 72 (fw_c 1).toNat) = 0 → R (some (0, 0, 4)) σ)))) ∧ (fw_c b0 ≠ 0 → R (some (0, 0, 2)) σ)) : G 55 [some (2, 69, 0), o1, some (0, 0, a2), some (0, 0, a3), none, o5] [(0, 0, b0)] σ := fw_on hG [55, 120] 200 h
theorem fs_whyWrong_120 {G : fw_K} {R : fw_KR} (hG : fw_cls st_whyWrong R G) {a4 b0 : Int} {o1 o2 o3 o5 : Option ab_AV} {σ : ab_SG} (h : (fw_c b0 = 0 → R (some (0, 0, 0)) σ) ∧ (fw_c b0 ≠ 0 → R (some (0, 0, 3)) σ)) : G 120 [some (2, 69, 0), o1, o2, o3, some (0, 0, a4), o5] [(0, 0, b0)] σ := fw_on hG [55, 120] 200 h
abbrev fk_judge : List fw_CR := [(105, 2, false, 0, 0, sp_atv), (112, 3, true, 2, 0, sp_whyWrong)]
abbrev st_judge : fw_K → fw_KR → fw_K := fw_st vwCl nn_sh nn_kd fw_kv fw_wc (nn_KI4.map (fun x => x.1)) (nn_KJ4.map (fun x => x.1)) (nn_PF4.map (fun x => x.1)) (nn_PS4.map (fun x => x.1)) fk_judge 1 nn_dt155 6 0
theorem fs_judge_0 {G : fw_K} {R : fw_KR} (hG : fw_cls st_judge R G) {σ : ab_SG} (h : (0 ≤ fw_c 1 ∧ fw_c 1 ≤ 1) ∧ ((0 ≤ fw_c 0 ∧ fw_c 0 < ((5 : Nat) : Int)) ∧ True ∧ ((0 ≤ fw_c 1 ∧ fw_c 1 < ((5 : Nat) : Int)) ∧ True ∧ ((0 ≤ fw_c 2 ∧ fw_c 2 < ((5 : Nat) : Int)) ∧ True ∧ ((0 ≤ fw_c 3 ∧ fw_c 3 < ((5 : Nat) : Int)) ∧ True ∧ ((0 ≤ fw_c 4 ∧ fw_c 4 < ((5 : Nat) : Int)) ∧ True ∧ (G 60 [some (2, 69, 0), some (2, 3, 0), some (0, 0, (-1)), some (0, 0, 0), none, none] [] (ab_ups (ab_ups (ab_ups (ab_ups (ab_ups (ab_ups (ab_ups (ab_ups σ 69 7 (fw_c 1)) 69 5 (fw_c (σ 69 4))) 69 6 (fw_c (σ 3 15))) 72 (fw_c 0).toNat (fw_c 0)) 72 (fw_c 1).toNat (fw_c 0)) 72 (fw_c 2).toNat (fw_c (-1))) 72 (fw_c 3).toNat (fw_c (-1))) 72 (fw_c 4).toNat (fw_c (-1)))))))))) : G 0 [some (2, 69, 0), some (2, 3, 0), none, none, none, none] [] σ := fw_on hG [60, 76, 86, 105, 168] 200 h
theorem fs_judge_60 {G : fw_K} {R : fw_KR} (hG : fw_cls st_judge R G) {a2 a3 : Int} {o4 o5 : Option ab_AV} {σ : ab_SG} (h : (fw_c (σ 69 3) ≤ fw_c a3 → R (some (0, 0, (-1))) σ) ∧ (fw_c a3 < fw_c (σ 69 3) → sp_atv [(2, 70, 0), (0, 0, a3)] σ (fun rv σ2 => G 76 [some (2, 69, 0), some (2, 3, 0), some (0, 0, a2), some (0, 0, a3), o4, o5] (rv.toList ++ []) σ2))) : G 60 [some (2, 69, 0), some (2, 3, 0), some (0, 0, a2), some (0, 0, a3), o4, o5] [] σ := fw_on hG [60, 76, 86, 105, 168] 200 h
theorem fs_judge_76 {G : fw_K} {R : fw_KR} (hG : fw_cls st_judge R G) {a2 a3 b0 : Int} {o4 o5 : Option ab_AV} {σ : ab_SG} (h : sp_atv [(2, 71, 0), (0, 0, a3)] σ (fun rv σ2 => G 86 [some (2, 69, 0), some (2, 3, 0), some (0, 0, a2), some (0, 0, a3), some (0, 0, b0), o5] (rv.toList ++ []) σ2)) : G 76 [some (2, 69, 0), some (2, 3, 0), some (0, 0, a2), some (0, 0, a3), o4, o5] [(0, 0, b0)] σ := fw_on hG [60, 76, 86, 105, 168] 200 h
theorem fs_judge_86 {G : fw_K} {R : fw_KR} (hG : fw_cls st_judge R G) {a2 a3 a4 b0 : Int} {o5 : Option ab_AV} {σ : ab_SG} (h : sp_whyWrong [(2, 69, 0), (0, 0, a4), (0, 0, b0), (0, 0, σ 3 14)] σ (fun rv σ2 => G 105 [some (2, 69, 0), some (2, 3, 0), some (0, 0, a2), some (0, 0, a3), some (0, 0, a4), some (0, 0, b0)] (rv.toList ++ [(0, 0, 0), (2, 72, 0)]) σ2)) : G 86 [some (2, 69, 0), some (2, 3, 0), some (0, 0, a2), some (0, 0, a3), some (0, 0, a4), o5] [(0, 0, b0)] σ := fw_on hG [60, 76, 86, 105, 168] 200 h
theorem fs_judge_105 {G : fw_K} {R : fw_KR} (hG : fw_cls st_judge R G) {a2 a3 a4 a5 b0 b1 : Int} {σ : ab_SG} (h : (0 ≤ fw_c b1 ∧ fw_c b1 < ((5 : Nat) : Int)) ∧ True ∧ ((0 ≤ fw_c 0 ∧ fw_c 0 < ((5 : Nat) : Int)) ∧ ((fw_c ((ab_ups σ 72 (fw_c b1).toNat (fw_c b0)) 72 (fw_c 0).toNat) = 0 → (fw_c a5 ≠ 0 → (0 ≤ fw_c 1 ∧ fw_c 1 < ((5 : Nat) : Int)) ∧ True ∧ ((0 ≤ fw_c 2 ∧ fw_c 2 < ((5 : Nat) : Int)) ∧ True ∧ ((0 ≤ fw_c 4 ∧ fw_c 4 < ((5 : Nat) : Int)) ∧ True ∧ (G 168 [some (2, 69, 0), some (2, 3, 0), some (0, 0, a4), some (0, 0, a3), some (0, 0, a4), some (0, 0, a5)] [] (ab_ups (ab_ups (ab_ups (ab_ups σ 72 (fw_c b1).toNat (fw_c b0)) 72 (fw_c 1).toNat (fw_c a5)) 72 (fw_c 2).toNat (fw_c a4)) 72 (fw_c 4).toNat (fw_c a2)))))) ∧ (fw_c a5 = 0 → (0 ≤ fw_c 3 ∧ fw_c 3 < ((5 : Nat) : Int)) ∧ True ∧ ((0 ≤ fw_c 4 ∧ fw_c 4 < ((5 : Nat) : Int)) ∧ True ∧ (G 168 [some (2, 69, 0), some (2, 3, 0), some (0, 0, a2), some (0, 0, a3), some (0, 0, a4), some (0, 0, a5)] [] (ab_ups (ab_ups (ab_ups σ 72 (fw_c b1).toNat (fw_c b0)) 72 (fw_c 3).toNat (fw_c a4)) 72 (fw_c 4).toNat (fw_c (-1))))))) ∧ (fw_c ((ab_ups σ 72 (fw_c b1).toNat (fw_c b0)) 72 (fw_c 0).toNat) ≠ 0 → R (some (0, 0, a3 + 1)) (ab_ups σ 72 (fw_c b1).toNat (fw_c b0)))))) : G 105 [some (2, 69, 0), some (2, 3, 0), some (0, 0, a2), some (0, 0, a3), some (0, 0, a4), some (0, 0, a5)] [(0, 0, b0), (0, 0, b1), (2, 72, 0)] σ := fw_on hG [60, 76, 86, 105, 168] 200 h
theorem fs_judge_168 {G : fw_K} {R : fw_KR} (hG : fw_cls st_judge R G) {a2 a3 : Int} {o4 o5 : Option ab_AV} {σ : ab_SG} (h : G 60 [some (2, 69, 0), some (2, 3, 0), some (0, 0, a2), some (0, 0, a3 + 1), o4, o5] [] σ) : G 168 [some (2, 69, 0), some (2, 3, 0), some (0, 0, a2), some (0, 0, a3), o4, o5] [] σ := fw_on hG [60, 76, 86, 105, 168] 200 h
abbrev fk_evening : List fw_CR := [(377, 2, true, 2, 5, sp_evRead), (380, 1, true, 2, 1, sp_judge)]
abbrev st_evening : fw_K → fw_KR → fw_K := fw_st vwCl nn_sh nn_kd fw_kv fw_wc (nn_KI1.map (fun x => x.1)) (nn_KJ1.map (fun x => x.1)) (nn_PF1.map (fun x => x.1)) (nn_PS1.map (fun x => x.1)) fk_evening 6 nn_dt152 2 0
theorem fs_evening_0 {G : fw_K} {R : fw_KR} (hG : fw_cls st_evening R G) {σ : ab_SG} (h : sp_evRead [(2, 69, 0), (2, 1, 0), (2, 3, 0)] σ (fun rv σ2 => G 15 [some (2, 0, 0), none] (rv.toList ++ []) σ2)) : G 0 [some (2, 0, 0), none] [] σ := fw_on hG [15, 39] 200 h
theorem fs_evening_15 {G : fw_K} {R : fw_KR} (hG : fw_cls st_evening R G) {b0 : Int} {o1 : Option ab_AV} {σ : ab_SG} (h : (fw_c b0 = 0 → R (some (0, 0, (-2) - (σ 1 10))) (ab_ups σ 1 1 (fw_c 0))) ∧ (fw_c b0 ≠ 0 → sp_judge [(2, 69, 0), (2, 3, 0)] (ab_ups σ 1 1 (fw_c 0)) (fun rv σ2 => G 39 [some (2, 0, 0), some (0, 0, b0)] (rv.toList ++ []) σ2))) : G 15 [some (2, 0, 0), o1] [(0, 0, b0)] σ := fw_on hG [15, 39] 200 h
theorem fs_evening_39 {G : fw_K} {R : fw_KR} (hG : fw_cls st_evening R G) {b0 : Int} {o1 : Option ab_AV} {σ : ab_SG} (h : R (some (0, 0, b0)) σ) : G 39 [some (2, 0, 0), o1] [(0, 0, b0)] σ := fw_on hG [15, 39] 200 h
section
variable {l : Launch} {cy : Nat → ClassId} {ad wr cr : Nat → Nat} {D : va_G}
theorem fm_at70 (hinj : nn_inj ad) : fw_H l cy ad wr cr D 29 0 (at_k 70 128) := fw_mk hinj (⟨"NameNotes", "at", "([II)I"⟩, prog_1_method_84_code, 2, (Option.some Jvm.ClassFile.FieldType.int), 2, false, 0) rfl rfl nn_KI1_ok nn_KJ1_ok nn_PF1_ok nn_PS1_ok (by decide +kernel) rfl rfl (fun _ h => absurd h List.not_mem_nil) (fun as σ K h => by
  obtain ⟨x, rfl, h1, h2⟩ := h
  exact ⟨rfl, fun G hG => at_gen (k := 70) (n := 128) (K := K) (σ := σ) (x := x) (by decide) (fs_at70_0 hG) h1 h2⟩)
theorem fm_at71 (hinj : nn_inj ad) : fw_H l cy ad wr cr D 29 0 (at_k 71 128) := fw_mk hinj (⟨"NameNotes", "at", "([II)I"⟩, prog_1_method_84_code, 2, (Option.some Jvm.ClassFile.FieldType.int), 2, false, 0) rfl rfl nn_KI1_ok nn_KJ1_ok nn_PF1_ok nn_PS1_ok (by decide +kernel) rfl rfl (fun _ h => absurd h List.not_mem_nil) (fun as σ K h => by
  obtain ⟨x, rfl, h1, h2⟩ := h
  exact ⟨rfl, fun G hG => at_gen (k := 71) (n := 128) (K := K) (σ := σ) (x := x) (by decide) (fs_at71_0 hG) h1 h2⟩)
theorem fm_put70 (hinj : nn_inj ad) : fw_H l cy ad wr cr D 27 0 (put_k 70 128) := fw_mk hinj (⟨"NameNotes", "put", "([III)V"⟩, prog_1_method_86_code, 3, (Option.none : Option Jvm.ClassFile.FieldType), 3, false, 4) rfl rfl nn_KI1_ok nn_KJ1_ok nn_PF1_ok nn_PS1_ok (by decide +kernel) rfl rfl (fun _ h => absurd h List.not_mem_nil) (fun as σ K h => by
  obtain ⟨x, v, rfl, h1, h2⟩ := h
  exact ⟨rfl, fun G hG => put_gen (k := 70) (n := 128) (K := K) (σ := σ) (x := x) (c := fw_c v) (by decide) (fs_put70_0 hG) h1 h2⟩)
theorem fm_put71 (hinj : nn_inj ad) : fw_H l cy ad wr cr D 27 0 (put_k 71 128) := fw_mk hinj (⟨"NameNotes", "put", "([III)V"⟩, prog_1_method_86_code, 3, (Option.none : Option Jvm.ClassFile.FieldType), 3, false, 4) rfl rfl nn_KI1_ok nn_KJ1_ok nn_PF1_ok nn_PS1_ok (by decide +kernel) rfl rfl (fun _ h => absurd h List.not_mem_nil) (fun as σ K h => by
  obtain ⟨x, v, rfl, h1, h2⟩ := h
  exact ⟨rfl, fun G hG => put_gen (k := 71) (n := 128) (K := K) (σ := σ) (x := x) (c := fw_c v) (by decide) (fs_put71_0 hG) h1 h2⟩)
theorem fm_seek12 (hinj : nn_inj ad) : fw_H l cy ad wr cr D 33 1 (seek_k 12 6) := fw_mk hinj (⟨"NameNotes$Tape", "seek", "([JI)I"⟩, prog_10_method_11_code, 4, (Option.some Jvm.ClassFile.FieldType.int), 2, true, 0) rfl rfl nn_KI2_ok nn_KJ2_ok nn_PF2_ok nn_PS2_ok (by decide +kernel) rfl rfl (List.forall_mem_cons.mpr ⟨fw_row nn_PM2_ok (x := 87) (k := 0) (mn := 24) (np := 0) (ob := true) (ci := 8) (⟨"NameNotes$Tape", "isName", "()Z"⟩, prog_10_method_9_code, 1, (Option.some Jvm.ClassFile.FieldType.boolean), 0, true, 1) rfl (by decide +kernel) rfl rfl (by decide) (fun _ => ⟨_, _, rfl⟩) (fm_isName hinj), (List.forall_mem_cons.mpr ⟨fw_row nn_PM2_ok (x := 91) (k := 0) (mn := 22) (np := 1) (ob := true) (ci := 8) (⟨"NameNotes$Tape", "refuse", "(I)Z"⟩, prog_10_method_14_code, 2, (Option.some Jvm.ClassFile.FieldType.boolean), 1, true, 1) rfl (by decide +kernel) rfl rfl (by decide) (fun _ => ⟨_, _, rfl⟩) (fm_refuse hinj), (fun _ h => absurd h List.not_mem_nil)⟩)⟩) (fun as σ K h => by
  obtain ⟨x, rfl, hx, hd, hw, h1, h2, h3⟩ := h
  refine ⟨rfl, fun G hG => fs_seek12_0 hG ⟨rfl, ?_⟩⟩
  refine fs_seek12_4 hG ⟨fun z => ?_, fun z => ⟨_, rfl, fs_seek12_12 hG (h1 (fw_bo_eq z))⟩⟩
  have hn := fw_bo_ne z
  exact seek_gen (k := 12) (n := 6) (K := K) (σ := σ) (x := x) (G2 := fun i => G 17 [some (2, 1, 0), some (2, 12, 0), some (0, 0, x), some (0, 0, i)] [] σ) (G4 := fun i => G 47 [some (2, 1, 0), some (2, 12, 0), some (0, 0, x), some (0, 0, i)] [] σ) (by decide) (fun a3 q => fs_seek12_17 hG q) hx hd (hw hn) (fun q i => fs_seek12_47 hG ⟨_, rfl, fs_seek12_52 hG (h2 hn q)⟩) (h3 hn))
theorem fm_seek13 (hinj : nn_inj ad) : fw_H l cy ad wr cr D 33 1 (seek_k 13 5) := fw_mk hinj (⟨"NameNotes$Tape", "seek", "([JI)I"⟩, prog_10_method_11_code, 4, (Option.some Jvm.ClassFile.FieldType.int), 2, true, 0) rfl rfl nn_KI2_ok nn_KJ2_ok nn_PF2_ok nn_PS2_ok (by decide +kernel) rfl rfl (List.forall_mem_cons.mpr ⟨fw_row nn_PM2_ok (x := 87) (k := 0) (mn := 24) (np := 0) (ob := true) (ci := 8) (⟨"NameNotes$Tape", "isName", "()Z"⟩, prog_10_method_9_code, 1, (Option.some Jvm.ClassFile.FieldType.boolean), 0, true, 1) rfl (by decide +kernel) rfl rfl (by decide) (fun _ => ⟨_, _, rfl⟩) (fm_isName hinj), (List.forall_mem_cons.mpr ⟨fw_row nn_PM2_ok (x := 91) (k := 0) (mn := 22) (np := 1) (ob := true) (ci := 8) (⟨"NameNotes$Tape", "refuse", "(I)Z"⟩, prog_10_method_14_code, 2, (Option.some Jvm.ClassFile.FieldType.boolean), 1, true, 1) rfl (by decide +kernel) rfl rfl (by decide) (fun _ => ⟨_, _, rfl⟩) (fm_refuse hinj), (fun _ h => absurd h List.not_mem_nil)⟩)⟩) (fun as σ K h => by
  obtain ⟨x, rfl, hx, hd, hw, h1, h2, h3⟩ := h
  refine ⟨rfl, fun G hG => fs_seek13_0 hG ⟨rfl, ?_⟩⟩
  refine fs_seek13_4 hG ⟨fun z => ?_, fun z => ⟨_, rfl, fs_seek13_12 hG (h1 (fw_bo_eq z))⟩⟩
  have hn := fw_bo_ne z
  exact seek_gen (k := 13) (n := 5) (K := K) (σ := σ) (x := x) (G2 := fun i => G 17 [some (2, 1, 0), some (2, 13, 0), some (0, 0, x), some (0, 0, i)] [] σ) (G4 := fun i => G 47 [some (2, 1, 0), some (2, 13, 0), some (0, 0, x), some (0, 0, i)] [] σ) (by decide) (fun a3 q => fs_seek13_17 hG q) hx hd (hw hn) (fun q i => fs_seek13_47 hG ⟨_, rfl, fs_seek13_52 hG (h2 hn q)⟩) (h3 hn))
theorem fm_atv (hinj : nn_inj ad) : fw_H l cy ad wr cr D 29 0 sp_atv := fw_H_of (List.forall_mem_cons.mpr ⟨fm_at70 hinj, (List.forall_mem_cons.mpr ⟨fm_at71 hinj, (fun _ h => absurd h List.not_mem_nil)⟩)⟩)
theorem fm_putv (hinj : nn_inj ad) : fw_H l cy ad wr cr D 27 0 sp_putv := fw_H_of (List.forall_mem_cons.mpr ⟨fm_put70 hinj, (List.forall_mem_cons.mpr ⟨fm_put71 hinj, (fun _ h => absurd h List.not_mem_nil)⟩)⟩)
theorem fm_seekn (hinj : nn_inj ad) : fw_H l cy ad wr cr D 33 1 sp_seekn := fw_H_of (List.forall_mem_cons.mpr ⟨fm_seek12 hinj, (List.forall_mem_cons.mpr ⟨fm_seek13 hinj, (fun _ h => absurd h List.not_mem_nil)⟩)⟩)
theorem fm_evLine (hinj : nn_inj ad) : fw_H l cy ad wr cr D 154 4 sp_evLine := fw_mk hinj (⟨"NameNotes$Evening", "readLine", "(LNameNotes$Tape;LNameNotes$Studio;)Z"⟩, prog_4_method_3_code, 5, (Option.some Jvm.ClassFile.FieldType.boolean), 2, true, 1) rfl rfl nn_KI4_ok nn_KJ4_ok nn_PF4_ok nn_PS4_ok (by decide +kernel) rfl rfl (List.forall_mem_cons.mpr ⟨fw_row nn_PM4_ok (x := 37) (k := 0) (mn := 20) (np := 1) (ob := true) (ci := 8) (⟨"NameNotes$Tape", "isWord", "(LNameNotes$Word;)Z"⟩, prog_10_method_10_code, 2, (Option.some Jvm.ClassFile.FieldType.boolean), 1, true, 1) rfl (by decide +kernel) rfl rfl (by decide) (fun _ => ⟨_, _, rfl⟩) (fm_isWord hinj), (List.forall_mem_cons.mpr ⟨fw_row nn_PM4_ok (x := 45) (k := 0) (mn := 10) (np := 0) (ob := true) (ci := 8) (⟨"NameNotes$Tape", "step", "()V"⟩, prog_10_method_5_code, 2, (Option.none : Option Jvm.ClassFile.FieldType), 0, true, 4) rfl (by decide +kernel) rfl rfl (by decide) (fun _ => ⟨_, _, rfl⟩) (fm_step hinj), (List.forall_mem_cons.mpr ⟨fw_row nn_PM4_ok (x := 57) (k := 0) (mn := 33) (np := 2) (ob := true) (ci := 8) (⟨"NameNotes$Tape", "seek", "([JI)I"⟩, prog_10_method_11_code, 4, (Option.some Jvm.ClassFile.FieldType.int), 2, true, 0) rfl (by decide +kernel) rfl rfl (by decide) (fun _ => ⟨_, _, rfl⟩) (fm_seekn hinj), (List.forall_mem_cons.mpr ⟨fw_row nn_PM4_ok (x := 83) (k := 0) (mn := 30) (np := 2) (ob := true) (ci := 8) (⟨"NameNotes$Tape", "needNumber", "(II)Z"⟩, prog_10_method_12_code, 3, (Option.some Jvm.ClassFile.FieldType.boolean), 2, true, 1) rfl (by decide +kernel) rfl rfl (by decide) (fun _ => ⟨_, _, rfl⟩) (fm_needNumber hinj), (List.forall_mem_cons.mpr ⟨fw_row nn_PM4_ok (x := 87) (k := 2) (mn := 27) (np := 3) (ob := false) (ci := 0) (⟨"NameNotes", "put", "([III)V"⟩, prog_1_method_86_code, 3, (Option.none : Option Jvm.ClassFile.FieldType), 3, false, 4) rfl (by decide +kernel) rfl rfl (by decide) (fun q => by cases q) (fm_putv hinj), (fun _ h => absurd h List.not_mem_nil)⟩)⟩)⟩)⟩)⟩) (fun as σ K h => by
  obtain ⟨A, e, p, i, rfl, hN, hE, h3, hi, h0, h1, h2⟩ := h
  have m1 : fw_c (-1) = -1 := fw_s (by decide) (by decide)
  refine ⟨rfl, fun G hG => fs_evLine_0 hG (hE.seek13 hN (fun q σ' a b c => fs_evLine_12 hG ⟨fun z => absurd rfl z, fun _ => ⟨fw_01, h0 q σ' a b c⟩⟩) (fun q => ?_))⟩
  have k := pr_sk_0 q
  have n13 := hN.1.2.2.1
  have ib := hi q
  have cx : fw_c (pr_ix A e 59 (A 49 13) p) = pr_ix A e 59 (A 49 13) p := fw_s (by omega) (by omega)
  refine fs_evLine_12 hG ⟨fun _ => ⟨rfl, hE.st.1, fun σ1 M1 S1 => fs_evLine_24 hG ?_⟩, fun z => absurd z (by rw [cx, m1]; omega)⟩
  have E1 := hE.st.2 σ1 M1 S1
  have kw := E1.kw
  have e3 : σ1 69 3 = (i : Int) := (mk_row M1 (k := 69) (by decide) 3).trans h3
  have ci : fw_c (i : Int) = (i : Int) := fw_s (by omega) (by omega)
  have ci1 : fw_c ((i : Int) + 1) = ((i + 1 : Nat) : Int) := fw_s (by omega) (by omega)
  refine ⟨6, rfl, ⟨kw.2.1, kw.2.2, by decide, by decide⟩, ?_⟩
  have T1 : ∀ {σ : ab_SG} {k j a b : Nat} {v : Int}, (a ≠ k ∨ b ≠ j) → (ab_ups σ k j v) a b = σ a b := fun hh => ab_ups_ne (fun z => hh.elim (fun y => y z.1) (fun y => y z.2))
  have fin : ∀ (a4 : Int) (o3 : Int), o3 = pr_ix A e 59 (A 49 13) p → ((tw e (tn e p) = 6 ∧ fw_c a4 ≠ 0) ∨ (tw e (tn e p) ≠ 6 ∧ fw_c a4 = 0 ∧ σ1 1 8 = (tk e (tn e p)).2.2.2.2 ∧ 1 ≤ (tk e (tn e p)).2.2.2.2 ∧ (tk e (tn e p)).2.2.2.2 ≤ 9)) → (tw e (tn e p) = 6 ∨ pr_nm e (tn e p) 1 9 = 0) → G 50 [some (2, 69, 0), some (2, 1, 0), some (2, 3, 0), some (0, 0, o3), some (0, 0, a4)] [] σ1 := by
    intro a4 o3 eo hc hg
    subst eo
    refine fs_evLine_50 hG ⟨(70, 128), by decide, _, _, rfl, fun _ => ?_, fun z => absurd (by rw [e3, ci]; exact ⟨by omega, by show (i : Int) < (128 : Int); omega⟩) z⟩
    rw [e3, ci, Int.toNat_natCast, cx]
    have M2 : ab_okM el_M σ (ab_ups σ1 70 i (pr_ix A e 59 (A 49 13) p)) := fw_okM_upa (ev_up M1 (by decide)) (by decide)
    have E2 : eD (ab_ups σ1 70 i (pr_ix A e 59 (A 49 13) p)) e (tn e p) := E1.M (M := [(70, i)]) okM_one rfl rfl
    have f8 : (ab_ups σ1 70 i (pr_ix A e 59 (A 49 13) p)) 1 8 = σ1 1 8 := T1 (Or.inl (by decide))
    have f3 : (ab_ups σ1 70 i (pr_ix A e 59 (A 49 13) p)) 69 3 = (i : Int) := (T1 (Or.inl (by decide))).trans e3
    have f70 : (ab_ups σ1 70 i (pr_ix A e 59 (A 49 13) p)) 70 i = pr_ix A e 59 (A 49 13) p := ab_ups_eq
    have g70 : ∀ j : Nat, j ≠ i → (ab_ups σ1 70 i (pr_ix A e 59 (A 49 13) p)) 70 j = σ 70 j := fun j hj => (T1 (Or.inr hj)).trans (mk_row M1 (by decide) j)
    have g71 : ∀ j : Nat, (ab_ups σ1 70 i (pr_ix A e 59 (A 49 13) p)) 71 j = σ 71 j := fun j => (T1 (Or.inl (by decide))).trans (mk_row M1 (by decide) j)
    generalize ab_ups σ1 70 i (pr_ix A e 59 (A 49 13) p) = σ2 at M2 E2 f8 f3 f70 g70 g71 ⊢
    have put : ∀ v : Int, fw_c v = ev_w e p → G 83 [some (2, 69, 0), some (2, 1, 0), some (2, 3, 0), some (0, 0, pr_ix A e 59 (A 49 13) p), some (0, 0, a4)] [(0, 0, v), (0, 0, σ2 69 3), (2, 71, 0)] σ2 := by
      intro v ev
      refine fs_evLine_83 hG ⟨(71, 128), by decide, _, _, rfl, fun _ => ?_, fun z => absurd (by rw [f3, ci]; exact ⟨by omega, by show (i : Int) < (128 : Int); omega⟩) z⟩
      rw [f3, ci, Int.toNat_natCast, ev]
      refine fs_evLine_86 hG ?_
      rw [T1 (σ := σ2) (k := 71) (j := i) (a := 69) (b := 3) (Or.inl (by decide)), f3, ci1]
      have M3 : ab_okM el_M σ (ab_ups (ab_ups σ2 71 i (ev_w e p)) 69 3 ((i + 1 : Nat) : Int)) := fw_okM_ups (fw_okM_upa M2 (by decide)) (by decide)
      have E3 : eD (ab_ups (ab_ups σ2 71 i (ev_w e p)) 69 3 ((i + 1 : Nat) : Int)) e (tn e p) := (E2.M (M := [(71, i)]) okM_one rfl rfl).M (M := [(69, 3)]) okM_one rfl rfl
      have l3 : (ab_ups (ab_ups σ2 71 i (ev_w e p)) 69 3 ((i + 1 : Nat) : Int)) 69 3 = ((i + 1 : Nat) : Int) := ab_ups_eq
      have l71 : (ab_ups (ab_ups σ2 71 i (ev_w e p)) 69 3 ((i + 1 : Nat) : Int)) 71 i = ev_w e p := (T1 (Or.inl (by decide))).trans ab_ups_eq
      have l70 : (ab_ups (ab_ups σ2 71 i (ev_w e p)) 69 3 ((i + 1 : Nat) : Int)) 70 i = ev_p A e p := ((T1 (Or.inl (by decide))).trans (T1 (Or.inl (by decide)))).trans f70
      have o70 : ∀ j : Nat, j ≠ i → (ab_ups (ab_ups σ2 71 i (ev_w e p)) 69 3 ((i + 1 : Nat) : Int)) 70 j = σ 70 j ∧ (ab_ups (ab_ups σ2 71 i (ev_w e p)) 69 3 ((i + 1 : Nat) : Int)) 71 j = σ 71 j := fun j hj => ⟨((T1 (Or.inl (by decide))).trans (T1 (Or.inl (by decide)))).trans (g70 j hj), ((T1 (Or.inl (by decide))).trans (T1 (Or.inr hj))).trans (g71 j)⟩
      generalize ab_ups (ab_ups σ2 71 i (ev_w e p)) 69 3 ((i + 1 : Nat) : Int) = σ3 at M3 E3 l3 l71 l70 o70 ⊢
      refine ⟨rfl, E3.st.1, fun σ4 M4 S4 => fs_evLine_100 hG ⟨fw_11, ?_⟩⟩
      have R4 : ∀ k : Nat, k ≠ 1 → ∀ j : Nat, σ4 k j = σ3 k j := fun k hk j => M4 k j (fun q hq w => by
        have : ∀ q ∈ st_M, q.1 = 1 := by decide
        exact hk (w.1.symm.trans (this q hq)))
      exact h2 q hg σ4 (ev_tr M3 (ev_up M4 (by decide))) (E3.st.2 σ4 M4 S4) ((R4 69 (by decide) 3).trans l3) (fun j hj => ⟨(R4 70 (by decide) j).trans (o70 j hj).1, (R4 71 (by decide) j).trans (o70 j hj).2⟩) ((R4 70 (by decide) i).trans l70) ((R4 71 (by decide) i).trans l71)
    refine fs_evLine_62 hG ⟨fun z => ?_, fun z => ?_⟩
    · rcases hc with ⟨-, c⟩ | ⟨c1, -, c2, c3, c4⟩
      · exact absurd z c
      · refine put _ ?_
        unfold ev_w
        rw [if_neg c1, f8, c2]
        exact fw_s (by omega) (by omega)
    · rcases hc with ⟨c, -⟩ | ⟨-, c, -⟩
      · refine put _ ?_
        unfold ev_w
        rw [if_pos c]
        exact fw_c0
      · exact absurd c z
  by_cases hw : tw e (tn e p) = 6
  · have eb : fw_bo (fw_c (σ1 1 5) = 2 ∧ σ1 1 7 = 6) = 1 := fw_bo_t ((E1.isw (by decide)).mpr hw)
    show G 31 _ [(0, 0, fw_bo (fw_c (σ1 1 5) = 2 ∧ σ1 1 7 = 6))] σ1
    rw [eb]
    exact fs_evLine_31 hG ⟨fun _ => fin 1 _ rfl (Or.inl ⟨hw, by rw [fw_c1]; decide⟩) (Or.inl hw), fun z => absurd (fw_c1.symm.trans z) (by decide)⟩
  · have eb : fw_bo (fw_c (σ1 1 5) = 2 ∧ σ1 1 7 = 6) = 0 := fw_bo_f (fun z => hw ((E1.isw (by decide)).mp z))
    show G 31 _ [(0, 0, fw_bo (fw_c (σ1 1 5) = 2 ∧ σ1 1 7 = 6))] σ1
    rw [eb]
    refine fs_evLine_31 hG ⟨fun z => absurd fw_c0 z, fun _ => E1.num (by decide) (fun y σ' a b c => fs_evLine_45 hG ⟨fun z => absurd fw_c0 z, fun _ => ⟨fw_01, h1 q hw y σ' (ev_tr (ev_up M1 (by decide)) (ev_up a (by decide))) b c⟩⟩) (fun y y8 ya yb => fs_evLine_45 hG ⟨fun _ => fin 0 _ rfl (Or.inr ⟨hw, fw_c0, y8, ya, yb⟩) (Or.inr y), fun z => absurd (fw_c1.symm.trans z) (by decide)⟩)⟩)
theorem fm_evRead (hinj : nn_inj ad) : fw_H l cy ad wr cr D 153 5 sp_evRead := fw_mk hinj (⟨"NameNotes$Evening", "read", "(LNameNotes$Tape;LNameNotes$Studio;)Z"⟩, prog_4_method_2_code, 5, (Option.some Jvm.ClassFile.FieldType.boolean), 2, true, 1) rfl rfl nn_KI4_ok nn_KJ4_ok nn_PF4_ok nn_PS4_ok (by decide +kernel) rfl rfl (List.forall_mem_cons.mpr ⟨fw_row nn_PM4_ok (x := 25) (k := 0) (mn := 9) (np := 1) (ob := true) (ci := 8) (⟨"NameNotes$Tape", "open", "(I)V"⟩, prog_10_method_4_code, 2, (Option.none : Option Jvm.ClassFile.FieldType), 1, true, 4) rfl (by decide +kernel) rfl rfl (by decide) (fun _ => ⟨_, _, rfl⟩) (fm_opn hinj), (List.forall_mem_cons.mpr ⟨fw_row nn_PM4_ok (x := 37) (k := 0) (mn := 20) (np := 1) (ob := true) (ci := 8) (⟨"NameNotes$Tape", "isWord", "(LNameNotes$Word;)Z"⟩, prog_10_method_10_code, 2, (Option.some Jvm.ClassFile.FieldType.boolean), 1, true, 1) rfl (by decide +kernel) rfl rfl (by decide) (fun _ => ⟨_, _, rfl⟩) (fm_isWord hinj), (List.forall_mem_cons.mpr ⟨fw_row nn_PM4_ok (x := 41) (k := 0) (mn := 22) (np := 1) (ob := true) (ci := 8) (⟨"NameNotes$Tape", "refuse", "(I)Z"⟩, prog_10_method_14_code, 2, (Option.some Jvm.ClassFile.FieldType.boolean), 1, true, 1) rfl (by decide +kernel) rfl rfl (by decide) (fun _ => ⟨_, _, rfl⟩) (fm_refuse hinj), (List.forall_mem_cons.mpr ⟨fw_row nn_PM4_ok (x := 45) (k := 0) (mn := 10) (np := 0) (ob := true) (ci := 8) (⟨"NameNotes$Tape", "step", "()V"⟩, prog_10_method_5_code, 2, (Option.none : Option Jvm.ClassFile.FieldType), 0, true, 4) rfl (by decide +kernel) rfl rfl (by decide) (fun _ => ⟨_, _, rfl⟩) (fm_step hinj), (List.forall_mem_cons.mpr ⟨fw_row nn_PM4_ok (x := 57) (k := 0) (mn := 33) (np := 2) (ob := true) (ci := 8) (⟨"NameNotes$Tape", "seek", "([JI)I"⟩, prog_10_method_11_code, 4, (Option.some Jvm.ClassFile.FieldType.int), 2, true, 0) rfl (by decide +kernel) rfl rfl (by decide) (fun _ => ⟨_, _, rfl⟩) (fm_seekn hinj), (List.forall_mem_cons.mpr ⟨fw_row nn_PM4_ok (x := 64) (k := 0) (mn := 40) (np := 1) (ob := true) (ci := 8) (⟨"NameNotes$Tape", "takeSign", "(I)Z"⟩, prog_10_method_13_code, 2, (Option.some Jvm.ClassFile.FieldType.boolean), 1, true, 1) rfl (by decide +kernel) rfl rfl (by decide) (fun _ => ⟨_, _, rfl⟩) (fm_takeSign hinj), (List.forall_mem_cons.mpr ⟨fw_row nn_PM4_ok (x := 70) (k := 0) (mn := 154) (np := 2) (ob := true) (ci := 2) (⟨"NameNotes$Evening", "readLine", "(LNameNotes$Tape;LNameNotes$Studio;)Z"⟩, prog_4_method_3_code, 5, (Option.some Jvm.ClassFile.FieldType.boolean), 2, true, 1) rfl (by decide +kernel) rfl rfl (by decide) (fun _ => ⟨_, _, rfl⟩) (fm_evLine hinj), (fun _ h => absurd h List.not_mem_nil)⟩)⟩)⟩)⟩)⟩)⟩)⟩) (fun as σ0 K h => by
  obtain ⟨A, rfl, hb, hN0, hf, hg⟩ := h
  have c400 : fw_c 400 = 400 := fw_s (by decide) (by decide)
  have c59 : fw_c 59 = 59 := fw_s (by decide) (by decide)
  have m1 : fw_c (-1) = -1 := fw_s (by decide) (by decide)
  refine ⟨rfl, fun G hG => fs_evRead_0 hG ?_⟩
  have e11 : (ab_ups σ0 69 3 (fw_c 0)) 1 1 = σ0 1 1 := ab_ups_ne (by decide)
  have et : tp_t (ab_ups σ0 69 3 (fw_c 0)) = tp_t σ0 := tp_t_M (M := [(69, 3)]) okM_one rfl
  have M0 : ab_okM er_M σ0 (ab_ups σ0 69 3 (fw_c 0)) := fw_okM_ups (fw_okM_refl _ _) (by decide)
  have z3 : (ab_ups σ0 69 3 (fw_c 0)) 69 3 = 0 := by rw [ab_ups_eq, fw_c0]
  generalize ab_ups σ0 69 3 (fw_c 0) = σ at e11 et M0 z3 ⊢
  refine ⟨400, rfl, ⟨by omega, by omega, by rw [c400]; decide, by rw [c400]; decide⟩, fun σ1 N1 e2 e9 S1 => fs_evRead_12 hG ?_⟩
  have M1 : ab_okM er_M σ0 σ1 := ev_tr M0 (ev_up N1 (by decide))
  rw [et, e11, c400] at S1
  have E1 : eD σ1 (tp_t σ0, (σ0 1 1).toNat, 400) 0 := by
    have a1 : σ1 1 1 = σ0 1 1 := (N1 1 1 (by decide)).trans e11
    refine ⟨?_, S1, Nat.zero_le _, ?_, e9⟩
    · unfold eT
      rw [tp_t_M N1 (by decide), et, a1, e2, c400]
    · rw [a1, e2, c400]
      omega
  have t3 : σ1 69 3 = 0 := (mk_row N1 (k := 69) (by decide) 3).trans z3
  generalize he : ((tp_t σ0, (σ0 1 1).toNat, 400) : tk_E) = e at hf hg E1 S1
  have e4 : e.2.2 = 400 := by rw [← he]
  have e940 : e.2.1 ≤ 940 := by
    rw [← he]
    show (σ0 1 1).toNat ≤ 940
    omega
  have NCt : ∀ τ : ab_SG, ab_okM er_M σ0 τ → NC τ A := fun τ M => ev_NC M (by decide +kernel) hN0
  have out0 : ∀ (τ : ab_SG) (a4 : Int), K (some (0, 0, 0)) τ → G 72 [some (2, 69, 0), some (2, 1, 0), some (2, 3, 0), some (0, 0, 0), some (0, 0, a4)] [] τ := fun τ a4 k => fs_evRead_72 hG ⟨fun _ => ⟨fw_01, k⟩, fun _ => ⟨fun _ => ⟨fw_01, k⟩, fun z => absurd fw_c0 z⟩⟩
  have kw := E1.kw
  refine ⟨1, rfl, ⟨kw.2.1, kw.2.2, by decide, by decide⟩, ?_⟩
  show G 19 _ [(0, 0, fw_bo (fw_c (σ1 1 5) = 2 ∧ σ1 1 7 = 1))] σ1
  by_cases hw : tw e 0 = 1
  · rw [fw_bo_t ((E1.isw (by decide)).mpr hw)]
    refine fs_evRead_19 hG ⟨fun _ => ⟨rfl, E1.st.1, fun σ2 N2 S2 => fs_evRead_32 hG ?_⟩, fun z => absurd (fw_c1.symm.trans z) (by decide)⟩
    have E2 := E1.st.2 σ2 N2 S2
    have M2 : ab_okM er_M σ0 σ2 := ev_tr M1 (ev_up N2 (by decide))
    refine E2.seek12 (NCt σ2 M2) (fun q σ' a b c => ?_) (fun q => ?_)
    · have er : ev_r A e = (pr_sk A e 58 (A 49 12) (tn e 0), ev_st e (tn e 0), 0) := by
        have eh : ev_h A e = (pr_sk A e 58 (A 49 12) (tn e 0), ev_st e (tn e 0)) := by
          unfold ev_h
          rw [if_neg (fun y => y hw), if_pos q]
        rw [ev_r1 (by rw [eh]; exact q), eh]
      rw [er] at hf
      refine fs_evRead_45 hG ⟨fun z => absurd (by rw [fw_c_c]) z, fun _ => ⟨fw_01, hf q _ (fw_okM_ups (ev_tr M2 (ev_up a (by decide))) (by decide)) ((ab_ups_ne (by decide)).trans b) ((ab_ups_ne (by decide)).trans c)⟩⟩
    · have k := pr_sk_0 q
      have n12 := hN0.1.2.1
      have cx : fw_c (pr_ix A e 58 (A 49 12) (tn e 0)) = pr_ix A e 58 (A 49 12) (tn e 0) := fw_s (by omega) (by omega)
      refine fs_evRead_45 hG ⟨fun _ => ?_, fun z => absurd z (by rw [cx, cx, m1]; omega)⟩
      rw [cx]
      have E3 : eD (ab_ups σ2 69 4 (pr_ix A e 58 (A 49 12) (tn e 0))) e (tn e 0) := E2.M (M := [(69, 4)]) okM_one rfl rfl
      have M3 : ab_okM er_M σ0 (ab_ups σ2 69 4 (pr_ix A e 58 (A 49 12) (tn e 0))) := fw_okM_ups M2 (by decide)
      have f4 : (ab_ups σ2 69 4 (pr_ix A e 58 (A 49 12) (tn e 0))) 69 4 = ev_c A e := ab_ups_eq
      have f3 : (ab_ups σ2 69 4 (pr_ix A e 58 (A 49 12) (tn e 0))) 69 3 = 0 := (ab_ups_ne (by decide)).trans ((mk_row N2 (k := 69) (by decide) 3).trans t3)
      generalize ab_ups σ2 69 4 (pr_ix A e 58 (A 49 12) (tn e 0)) = σ3 at E3 M3 f4 f3 ⊢
      refine ⟨rfl, E3.st.1, fun σ4 N4 S4 => fs_evRead_62 hG ?_⟩
      have E4 := E3.st.2 σ4 N4 S4
      have M4 : ab_okM er_M σ0 σ4 := ev_tr M3 (ev_up N4 (by decide))
      refine E4.sign (fun y σ' a b c => ?_) (fun y σ5 N5 E5 => ?_)
      · have er : ev_r A e = (1, ev_st e (tn e (tn e 0)), 0) := by
          have eh : ev_h A e = (1, ev_st e (tn e (tn e 0))) := by
            unfold ev_h
            rw [if_neg (fun y => y hw), if_neg (fun z => z q), if_pos y]
          rw [ev_r1 (by rw [eh]; show ¬ (1 : Int) = 0; decide), eh]
        rw [er] at hf
        exact fs_evRead_68 hG (out0 σ' 0 (hf (show (1 : Int) ≠ 0 by decide) σ' (ev_tr M4 (ev_up a (by decide))) b c))
      · have eh : ev_h A e = (0, 0) := by
          unfold ev_h
          rw [if_neg (fun y => y hw), if_neg (fun z => z q), if_neg (fun z => z y)]
        have er : ev_r A e = ev_a A e 400 0 := ev_r2 (by rw [eh])
        have q0 := ev_q0 (A := A) (e := e) (by rw [eh])
        have R4 : ∀ {τ τ' : ab_SG}, ab_okM st_M τ τ' → ∀ k : Nat, k ≠ 1 → ∀ j : Nat, τ' k j = τ k j := fun M k hk j => M k j (fun q hq w => by
          have : ∀ q ∈ st_M, q.1 = 1 := by decide
          exact hk (w.1.symm.trans (this q hq)))
        have M5 : ab_okM er_M σ0 σ5 := ev_tr M4 (ev_up N5 (by decide))
        have g4 : σ5 69 4 = ev_c A e := (R4 N5 69 (by decide) 4).trans ((R4 N4 69 (by decide) 4).trans f4)
        have g3 : σ5 69 3 = 0 := (R4 N5 69 (by decide) 3).trans ((R4 N4 69 (by decide) 3).trans f3)
        have loop : ∀ (f i : Nat) (τ : ab_SG), i + f = 400 → i ≤ 128 → ab_okM er_M σ0 τ → eD τ e (ev_q e i) → 4 * i + 4 ≤ ev_q e i → τ 69 4 = ev_c A e → eL τ A e i → ev_r A e = ev_a A e f i → G 72 [some (2, 69, 0), some (2, 1, 0), some (2, 3, 0), some (0, 0, 1), some (0, 0, (i : Int))] [] τ := by
          intro f
          induction f with
          | zero =>
            intro i τ hi hi9 M E hq _ _ _
            omega
          | succ f ih =>
            intro i τ hi hi9 M E hq h4 hL hr
            have ci : fw_c (i : Int) = (i : Int) := fw_s (by omega) (by omega)
            refine fs_evRead_72 hG ⟨fun z => absurd z (by rw [c400, ci]; omega), fun _ => ⟨fun z => absurd (fw_c1.symm.trans z) (by decide), fun _ => ?_⟩⟩
            rw [E.kind.2]
            refine ⟨fun z => ⟨fw_11, ?_⟩, fun z => ?_⟩
            · rw [ev_a0 z] at hr
              rw [hr] at hg
              exact hg rfl τ M E.2.2.2.2 hL hi9 h4
            · have no : ∀ (f1 pl : Int) (σ' : ab_SG) (a4 : Int), ev_g A e (ev_q e i) = (f1, pl) → f1 ≠ 0 → ab_okM er_M σ0 σ' → σ' 1 9 = f1 → σ' 1 10 = pl → G 113 [some (2, 69, 0), some (2, 1, 0), some (2, 3, 0), some (0, 0, a4), some (0, 0, (i : Int))] [] σ' := by
                intro f1 pl σ' a4 eg n1 M' b c
                have er2 : ev_r A e = (f1, pl, i) := by rw [hr, ev_a1 z (by rw [eg]; exact n1), eg]
                rw [er2] at hf
                exact fs_evRead_113 hG (fs_evRead_114 hG (out0 σ' _ (hf n1 σ' M' b c)))
              refine ⟨A, e, ev_q e i, i, rfl, NCt τ M, E, hL.1, fun y => by have := ev_lt e4 (pr_sk_0 y).1; omega, fun y σ' a b c => ?_, fun y hw6 ynm σ' a b c => ?_, fun y yd σ' M6 E6 l3 lo l70 l71 => ?_⟩
              · exact fs_evRead_97 hG ⟨fun _ => no _ _ σ' _ (by unfold ev_g; rw [if_pos y]) y (ev_tr M (ev_up a (by decide))) b c, fun z => absurd fw_c0 z⟩
              · exact fs_evRead_97 hG ⟨fun _ => no _ _ σ' _ (by unfold ev_g; rw [if_neg (fun w => w y), if_pos ⟨hw6, ynm⟩]) ynm (ev_tr M (ev_up a (by decide))) b c, fun z => absurd fw_c0 z⟩
              · have M7 : ab_okM er_M σ0 σ' := ev_tr M (ev_up M6 (by decide))
                refine fs_evRead_97 hG ⟨fun z => absurd (fw_c1.symm.trans z) (by decide), fun _ => E6.sign (fun y2 σ7 a b c => ?_) (fun y2 σ7 N7 E7 => ?_)⟩
                · exact fs_evRead_106 hG ⟨fun _ => no _ _ σ7 _ (by unfold ev_g; rw [if_neg (fun w => w y), if_neg (fun w => yd.elim (fun u => w.1 u) (fun u => w.2 u)), if_pos y2]) (by decide) (ev_tr M7 (ev_up a (by decide))) b c, fun z => absurd fw_c0 z⟩
                · refine fs_evRead_106 hG ⟨fun z => absurd (fw_c1.symm.trans z) (by decide), fun _ => fs_evRead_114 hG ?_⟩
                  have eg : (ev_g A e (ev_q e i)).1 = 0 := by
                    unfold ev_g
                    rw [if_neg (fun w => w y), if_neg (fun w => yd.elim (fun u => w.1 u) (fun u => w.2 u)), if_neg (fun w => w y2)]
                  have q4 := ev_q4 (A := A) E.2.2.1 eg
                  have lt := ev_lt e4 (pr_sk_0 y).1
                  have g := ih (i + 1) σ7 (by omega) (by omega) (ev_tr M7 (ev_up N7 (by decide))) E7 (by rw [ev_qs]; omega) ((R4 N7 69 (by decide) 4).trans ((mk_at M6 (k := 69) (j := 4) (by decide)).trans h4)) ⟨(R4 N7 69 (by decide) 3).trans l3, fun j hj => by
                    by_cases c : j = i
                    · rw [c, R4 N7 70 (by decide) i, R4 N7 71 (by decide) i]
                      exact ⟨l70, l71⟩
                    · rw [R4 N7 70 (by decide) j, R4 N7 71 (by decide) j, (lo j c).1, (lo j c).2]
                      exact hL.2 j (by omega)⟩ (hr.trans (ev_a2 z eg))
                  rw [show ((i + 1 : Nat) : Int) = (i : Int) + 1 from rfl] at g
                  exact g
        exact fs_evRead_68 hG (loop 400 0 σ5 rfl (by decide) M5 E5 (by omega) g4 ⟨g3, fun j hj => absurd hj (Nat.not_lt_zero j)⟩ er)
  · rw [fw_bo_f (fun z => hw ((E1.isw (by decide)).mp z))]
    refine fs_evRead_19 hG ⟨fun z => absurd fw_c0 z, fun _ => ⟨1, rfl, ?_⟩⟩
    have er : ev_r A e = (1, ev_st e 0, 0) := by
      have eh : ev_h A e = (1, ev_st e 0) := by
        unfold ev_h
        rw [if_pos hw]
      rw [ev_r1 (by rw [eh]; show ¬ (1 : Int) = 0; decide), eh]
    rw [er] at hf
    exact E1.rf (x := 1) (v := 0) (K := fun rv σ2 => G 27 [some (2, 69, 0), some (2, 1, 0), some (2, 3, 0), none, none] (rv.toList ++ []) σ2) (by decide) (fun σ' a b c => fs_evRead_27 hG ⟨fw_01, hf (show (1 : Int) ≠ 0 by decide) σ' (ev_tr M1 (ev_up a (by decide))) b c⟩))
theorem fm_whyWrong (hinj : nn_inj ad) : fw_H l cy ad wr cr D 156 0 sp_whyWrong := fw_mk hinj (⟨"NameNotes$Evening", "whyWrong", "(III)I"⟩, prog_4_method_5_code, 6, (Option.some Jvm.ClassFile.FieldType.int), 3, true, 0) rfl rfl nn_KI4_ok nn_KJ4_ok nn_PF4_ok nn_PS4_ok (by decide +kernel) rfl rfl (fun _ h => absurd h List.not_mem_nil) (fun as σ K h => by
  obtain ⟨A, s, p, n, rfl, ⟨e1, e2, e3, e4⟩, hB, hp, hn, hf, h⟩ := h
  obtain ⟨why, wr, b, d, m, t⟩ := s
  obtain ⟨-, -, b3, b4, b5, b6, -⟩ := hB
  replace e1 : σ 72 1 = b := e1
  replace e2 : σ 72 2 = d := e2
  replace e3 : σ 72 3 = m := e3
  replace e4 : σ 72 4 = t := e4
  replace b3 : 0 ≤ b ∧ b ≤ 9 := b3
  replace b4 : -1 ≤ d ∧ d ≤ 4 := b4
  replace b5 : -1 ≤ m ∧ m ≤ 4 := b5
  replace b6 : -1 ≤ t ∧ t ≤ 4 := b6
  have ew : jg_w A (why, wr, b, d, m, t) p n = if m ≠ -1 then 1 else if (t ≠ -1 ∧ p ≠ t) ∨ (t = -1 ∧ p = d) then 2 else if n = 0 then (if b = 0 then 4 else 0) else if (if b = 0 then A 49 14 else b - 1) < n then 3 else 0 := rfl
  rw [ew] at h
  have c2 : fw_c 2 = 2 := fw_s (by decide) (by decide)
  have c3 : fw_c 3 = 3 := fw_s (by decide) (by decide)
  have c4 : fw_c 4 = 4 := fw_s (by decide) (by decide)
  have m1 : fw_c (-1) = -1 := fw_s (by decide) (by decide)
  have t1 : (fw_c 1).toNat = 1 := by rw [fw_c1]; rfl
  have t2 : (fw_c 2).toNat = 2 := by rw [c2]; rfl
  have t3 : (fw_c 3).toNat = 3 := by rw [c3]; rfl
  have t4 : (fw_c 4).toNat = 4 := by rw [c4]; rfl
  have cp : fw_c p = p := fw_s (by omega) (by omega)
  have cn : fw_c n = n := fw_s (by omega) (by omega)
  have cb : fw_c b = b := fw_s (by omega) (by omega)
  have cd : fw_c d = d := fw_s (by omega) (by omega)
  have cm : fw_c m = m := fw_s (by omega) (by omega)
  have ct : fw_c t = t := fw_s (by omega) (by omega)
  have cf : fw_c (A 49 14) = A 49 14 := fw_s (by omega) (by omega)
  refine ⟨rfl, fun G hG => ?_⟩
  have a1 : m = -1 → (t ≠ -1 ∧ p ≠ t) ∨ (t = -1 ∧ p = d) → G 55 [some (2, 69, 0), some (0, 0, p), some (0, 0, n), some (0, 0, A 49 14), none, none] [(0, 0, 1)] σ := fun z y => fs_whyWrong_55 hG ⟨fun u => absurd (fw_c1.symm.trans u) (by decide), fun _ => by
    rw [if_neg (fun w => w z), if_pos y] at h
    exact h⟩
  have a0 : m = -1 → ¬ ((t ≠ -1 ∧ p ≠ t) ∨ (t = -1 ∧ p = d)) → G 55 [some (2, 69, 0), some (0, 0, p), some (0, 0, n), some (0, 0, A 49 14), none, none] [(0, 0, 0)] σ := fun z y => by
    rw [if_neg (fun w => w z), if_neg y] at h
    refine fs_whyWrong_55 hG ⟨fun _ => ?_, fun u => absurd fw_c0 u⟩
    rw [t1, e1, cb, cn, cf, fw_c1]
    have k0 : (if n = 0 then (if b = 0 then 4 else 0) else if (if b = 0 then A 49 14 else b - 1) < n then (3 : Int) else 0) = 0 → G 120 [some (2, 69, 0), some (0, 0, p), some (0, 0, n), some (0, 0, A 49 14), some (0, 0, 0), none] [(0, 0, 0)] σ := fun v => fs_whyWrong_120 hG ⟨fun _ => by rw [v] at h; exact h, fun u => absurd fw_c0 u⟩
    have k1 : (if n = 0 then (if b = 0 then 4 else 0) else if (if b = 0 then A 49 14 else b - 1) < n then (3 : Int) else 0) = 3 → G 120 [some (2, 69, 0), some (0, 0, p), some (0, 0, n), some (0, 0, A 49 14), some (0, 0, 0), none] [(0, 0, 1)] σ := fun v => fs_whyWrong_120 hG ⟨fun u => absurd (fw_c1.symm.trans u) (by decide), fun _ => by rw [v] at h; exact h⟩
    refine ⟨fun z1 => ⟨by decide, fun z2 => ⟨by decide, fun z3 => k0 ?_, fun z3 => k1 ?_⟩, fun z2 => ⟨fun z3 => k0 ?_, fun z3 => k1 ?_⟩⟩, fun z1 => ⟨by decide, fun z2 => ?_, fun z2 => ?_⟩⟩
    · rw [if_neg z1, if_neg z2, if_neg (by omega)]
    · rw [if_neg z1, if_neg z2, if_pos (by omega)]
    · rw [if_neg z1, if_pos z2, if_neg (by omega)]
    · rw [if_neg z1, if_pos z2, if_pos (by omega)]
    · rw [if_pos z1, if_neg z2] at h
      exact h
    · rw [if_pos z1, if_pos z2] at h
      exact h
  refine fs_whyWrong_0 hG ?_
  rw [t3, t4, t2, c3, c4, c2, m1, e3, e4, e2, cm, ct, cd, cp]
  refine ⟨by decide, fun z1 => ⟨by decide, fun z2 => ⟨by decide, fun z3 => a0 z1 ?_, fun z3 => a1 z1 (Or.inl ⟨z2, z3⟩)⟩, fun z2 => ⟨by decide, fun z3 => a0 z1 ?_, fun z3 => a1 z1 (Or.inr ⟨z2, z3⟩)⟩⟩, fun z1 => ?_⟩
  · omega
  · omega
  · rw [if_pos z1] at h
    exact h)
theorem fm_judge (hinj : nn_inj ad) : fw_H l cy ad wr cr D 155 1 sp_judge := fw_mk hinj (⟨"NameNotes$Evening", "judge", "(LNameNotes$Studio;)I"⟩, prog_4_method_4_code, 6, (Option.some Jvm.ClassFile.FieldType.int), 1, true, 0) rfl rfl nn_KI4_ok nn_KJ4_ok nn_PF4_ok nn_PS4_ok (by decide +kernel) rfl rfl (List.forall_mem_cons.mpr ⟨fw_row nn_PM4_ok (x := 105) (k := 2) (mn := 29) (np := 2) (ob := false) (ci := 0) (⟨"NameNotes", "at", "([II)I"⟩, prog_1_method_84_code, 2, (Option.some Jvm.ClassFile.FieldType.int), 2, false, 0) rfl (by decide +kernel) rfl rfl (by decide) (fun q => by cases q) (fm_atv hinj), (List.forall_mem_cons.mpr ⟨fw_row nn_PM4_ok (x := 112) (k := 0) (mn := 156) (np := 3) (ob := true) (ci := 2) (⟨"NameNotes$Evening", "whyWrong", "(III)I"⟩, prog_4_method_5_code, 6, (Option.some Jvm.ClassFile.FieldType.int), 3, true, 0) rfl (by decide +kernel) rfl rfl (by decide) (fun _ => ⟨_, _, rfl⟩) (fm_whyWrong hinj), (fun _ h => absurd h List.not_mem_nil)⟩)⟩) (fun as σ0 K h => by
  obtain ⟨A, e, n, rfl, hN0, hL0, hn, hg, h⟩ := h
  have c2 : fw_c 2 = 2 := fw_s (by decide) (by decide)
  have c3 : fw_c 3 = 3 := fw_s (by decide) (by decide)
  have c4 : fw_c 4 = 4 := fw_s (by decide) (by decide)
  have m1 : fw_c (-1) = -1 := fw_s (by decide) (by decide)
  have t0 : (fw_c 0).toNat = 0 := by rw [fw_c0]; rfl
  have t1 : (fw_c 1).toNat = 1 := by rw [fw_c1]; rfl
  have t2 : (fw_c 2).toNat = 2 := by rw [c2]; rfl
  have t3 : (fw_c 3).toNat = 3 := by rw [c3]; rfl
  have t4 : (fw_c 4).toNat = 4 := by rw [c4]; rfl
  have T1 : ∀ {σ : ab_SG} {k j a b : Nat} {v : Int}, (a ≠ k ∨ b ≠ j) → (ab_ups σ k j v) a b = σ a b := fun hh => ab_ups_ne (fun z => hh.elim (fun y => y z.1) (fun y => y z.2))
  refine ⟨rfl, fun G hG => fs_judge_0 hG ?_⟩
  rw [t0, t1, t2, t3, t4, c2, c3, c4, m1, fw_c0, fw_c1]
  have M1 : ab_okM jd_M σ0 (ab_ups (ab_ups (ab_ups (ab_ups (ab_ups (ab_ups (ab_ups (ab_ups σ0 69 7 1) 69 5 (fw_c (σ0 69 4))) 69 6 (fw_c (σ0 3 15))) 72 0 0) 72 1 0) 72 2 (-1)) 72 3 (-1)) 72 4 (-1)) := fw_okM_upa (fw_okM_upa (fw_okM_upa (fw_okM_upa (fw_okM_upa (fw_okM_ups (fw_okM_ups (fw_okM_ups (fw_okM_refl _ _) (by decide)) (by decide)) (by decide)) (by decide)) (by decide)) (by decide)) (by decide)) (by decide)
  have J1 : jc_is (ab_ups (ab_ups (ab_ups (ab_ups (ab_ups (ab_ups (ab_ups (ab_ups σ0 69 7 1) 69 5 (fw_c (σ0 69 4))) 69 6 (fw_c (σ0 3 15))) 72 0 0) 72 1 0) 72 2 (-1)) 72 3 (-1)) 72 4 (-1)) (jg_n A e 0) := by
    refine ⟨?_, ?_, ?_, ?_, ?_⟩
    · rw [T1 (by decide), T1 (by decide), T1 (by decide), T1 (by decide), ab_ups_eq]
      rfl
    · rw [T1 (by decide), T1 (by decide), T1 (by decide), ab_ups_eq]
      rfl
    · rw [T1 (by decide), T1 (by decide), ab_ups_eq]
      rfl
    · rw [T1 (by decide), ab_ups_eq]
      rfl
    · rw [ab_ups_eq]
      rfl
  have f7 : (ab_ups (ab_ups (ab_ups (ab_ups (ab_ups (ab_ups (ab_ups (ab_ups σ0 69 7 1) 69 5 (fw_c (σ0 69 4))) 69 6 (fw_c (σ0 3 15))) 72 0 0) 72 1 0) 72 2 (-1)) 72 3 (-1)) 72 4 (-1)) 69 7 = 1 := by
    rw [T1 (by decide), T1 (by decide), T1 (by decide), T1 (by decide), T1 (by decide), T1 (by decide), T1 (by decide), ab_ups_eq]
  have f5 : (ab_ups (ab_ups (ab_ups (ab_ups (ab_ups (ab_ups (ab_ups (ab_ups σ0 69 7 1) 69 5 (fw_c (σ0 69 4))) 69 6 (fw_c (σ0 3 15))) 72 0 0) 72 1 0) 72 2 (-1)) 72 3 (-1)) 72 4 (-1)) 69 5 = fw_c (σ0 69 4) := by
    rw [T1 (by decide), T1 (by decide), T1 (by decide), T1 (by decide), T1 (by decide), T1 (by decide), ab_ups_eq]
  have f6 : (ab_ups (ab_ups (ab_ups (ab_ups (ab_ups (ab_ups (ab_ups (ab_ups σ0 69 7 1) 69 5 (fw_c (σ0 69 4))) 69 6 (fw_c (σ0 3 15))) 72 0 0) 72 1 0) 72 2 (-1)) 72 3 (-1)) 72 4 (-1)) 69 6 = fw_c (σ0 3 15) := by
    rw [T1 (by decide), T1 (by decide), T1 (by decide), T1 (by decide), T1 (by decide), ab_ups_eq]
  generalize ab_ups (ab_ups (ab_ups (ab_ups (ab_ups (ab_ups (ab_ups (ab_ups σ0 69 7 1) 69 5 (fw_c (σ0 69 4))) 69 6 (fw_c (σ0 3 15))) 72 0 0) 72 1 0) 72 2 (-1)) 72 3 (-1)) 72 4 (-1) = σ at M1 J1 f7 f5 f6 ⊢
  have NCt : ∀ τ : ab_SG, ab_okM jd_M σ0 τ → NC τ A := fun τ M => ev_NC M (by decide +kernel) hN0
  have Lt : ∀ τ : ab_SG, ab_okM jd_M σ0 τ → eL τ A e n := fun τ M => ⟨(mk_at M (by decide)).trans hL0.1, fun j hj => by
    rw [mk_row M (k := 70) (by decide) j, mk_row M (k := 71) (by decide) j]
    exact hL0.2 j hj⟩
  have nB := fun i (hi : i ≤ n) => jg_nB hN0.1 (e := e) i (by omega) (fun j hj => hg j (by omega))
  have f14 := hN0.2.1.2.2.2.2
  have loop : ∀ (f i : Nat) (τ : ab_SG) (o4 o5 : Option ab_AV), i + f = n → ab_okM [(72, 1000000)] σ τ → jc_is τ (jg_n A e i) → (jg_n A e i).1 = 0 → G 60 [some (2, 69, 0), some (2, 3, 0), some (0, 0, (jg_n A e i).2.2.2.1), some (0, 0, (i : Int)), o4, o5] [] τ := by
    intro f
    induction f with
    | zero =>
      intro i τ o4 o5 hi M J hw
      have ei : i = n := by omega
      subst ei
      have M9 : ab_okM jd_M σ0 τ := ev_tr M1 (ev_up M (by decide))
      refine fs_judge_60 hG ⟨fun _ => ?_, fun z => absurd z (by rw [(Lt τ M9).1]; exact Int.lt_irrefl _)⟩
      have k := h τ M9 J ((mk_at M (by decide)).trans f5) ((mk_at M (by decide)).trans f6) ((mk_at M (by decide)).trans f7)
      rw [(nB i (Nat.le_refl i)).2.2.2.2.2.2 hw] at k
      exact k
    | succ f ih =>
      intro i τ o4 o5 hi M J hw
      have M9 : ab_okM jd_M σ0 τ := ev_tr M1 (ev_up M (by decide))
      have L9 := Lt τ M9
      have ci : fw_c (i : Int) = (i : Int) := fw_s (by omega) (by omega)
      have cn : fw_c (n : Int) = (n : Int) := fw_s (by omega) (by omega)
      have bi := ev_b hN0.1 (hg i (by omega))
      have B := nB i (by omega)
      have li := L9.2 i (by omega)
      refine fs_judge_60 hG ⟨fun z => absurd z (by rw [L9.1, ci, cn]; omega), fun _ => ⟨(70, 128), by decide, _, rfl, fun _ => ?_, fun z => absurd (by rw [ci]; exact ⟨by omega, by show (i : Int) < (128 : Int); omega⟩) z⟩⟩
      rw [ci, Int.toNat_natCast, li.1]
      refine fs_judge_76 hG ⟨(71, 128), by decide, _, rfl, fun _ => ?_, fun z => absurd (by rw [ci]; exact ⟨by omega, by show (i : Int) < (128 : Int); omega⟩) z⟩
      rw [ci, Int.toNat_natCast, li.2]
      refine fs_judge_86 hG ?_
      rw [show τ 3 14 = A 49 14 from (NCt τ M9).2.2.2.2.2.1]
      refine ⟨A, jg_n A e i, _, _, rfl, ⟨J.2.1, J.2.2.1, J.2.2.2.1, J.2.2.2.2⟩, B, bi.1, bi.2, f14, fs_judge_105 hG ?_⟩
      have wb := jg_w_b A (jg_n A e i) (ev_p A e (ev_q e i)) (ev_w e (ev_q e i))
      have en := jg_ns A e i
      generalize hw9 : jg_w A (jg_n A e i) (ev_p A e (ev_q e i)) (ev_w e (ev_q e i)) = w at wb
      have cw : fw_c w = w := fw_s (by omega) (by omega)
      have cpp : fw_c (ev_p A e (ev_q e i)) = ev_p A e (ev_q e i) := fw_s (by omega) (by omega)
      have cww : fw_c (ev_w e (ev_q e i)) = ev_w e (ev_q e i) := fw_s (by omega) (by omega)
      have cbd : fw_c (jg_n A e i).2.2.2.1 = (jg_n A e i).2.2.2.1 := by
        have := B.2.2.2.1
        exact fw_s (by omega) (by omega)
      rw [t0, t1, t2, t3, t4, c2, c3, c4, m1, fw_c0, fw_c1, cw, ab_ups_eq, cw, cpp, cww, cbd]
      unfold jg_1 at en
      rw [if_neg (fun z => z hw), hw9] at en
      refine ⟨by decide, trivial, by decide, fun z => ⟨fun z2 => ⟨by decide, trivial, by decide, trivial, by decide, trivial, fs_judge_168 hG ?_⟩, fun z2 => ⟨by decide, trivial, by decide, trivial, fs_judge_168 hG ?_⟩⟩, fun z => ?_⟩
      · rw [if_neg (fun y => y z), if_neg z2] at en
        have g := ih (i + 1) (ab_ups (ab_ups (ab_ups (ab_ups τ 72 0 w) 72 1 (ev_w e (ev_q e i))) 72 2 (ev_p A e (ev_q e i))) 72 4 (jg_n A e i).2.2.2.1) (some (0, 0, ev_p A e (ev_q e i))) (some (0, 0, ev_w e (ev_q e i))) (by omega) (fw_okM_upa (fw_okM_upa (fw_okM_upa (fw_okM_upa M (by decide)) (by decide)) (by decide)) (by decide)) (by
          rw [en]
          refine ⟨?_, ?_, ?_, ?_, ?_⟩
          · rw [T1 (by decide), T1 (by decide), T1 (by decide), ab_ups_eq]
            exact z
          · rw [T1 (by decide), T1 (by decide), ab_ups_eq]
          · rw [T1 (by decide), ab_ups_eq]
          · rw [T1 (by decide), T1 (by decide), T1 (by decide), T1 (by decide)]
            exact J.2.2.2.1
          · rw [ab_ups_eq]) (by rw [en])
        rw [en] at g
        exact g
      · rw [if_neg (fun y => y z), if_pos z2] at en
        have g := ih (i + 1) (ab_ups (ab_ups (ab_ups τ 72 0 w) 72 3 (ev_p A e (ev_q e i))) 72 4 (-1)) (some (0, 0, ev_p A e (ev_q e i))) (some (0, 0, ev_w e (ev_q e i))) (by omega) (fw_okM_upa (fw_okM_upa (fw_okM_upa M (by decide)) (by decide)) (by decide)) (by
          rw [en]
          refine ⟨?_, ?_, ?_, ?_, ?_⟩
          · rw [T1 (by decide), T1 (by decide), ab_ups_eq]
            exact z
          · rw [T1 (by decide), T1 (by decide), T1 (by decide)]
            exact J.2.1
          · rw [T1 (by decide), T1 (by decide), T1 (by decide)]
            exact J.2.2.1
          · rw [T1 (by decide), ab_ups_eq]
          · rw [ab_ups_eq]) (by rw [en])
        rw [en] at g
        exact g
      · rw [if_pos z] at en
        have st := jg_stay (A := A) (e := e) (i := i + 1) (by rw [en]; exact z) (n - (i + 1))
        rw [show i + 1 + (n - (i + 1)) = n by omega] at st
        have k := h (ab_ups τ 72 0 w) (fw_okM_upa M9 (by decide)) (by
          rw [st, en]
          refine ⟨ab_ups_eq, ?_, ?_, ?_, ?_⟩
          · exact (T1 (by decide)).trans J.2.1
          · exact (T1 (by decide)).trans J.2.2.1
          · exact (T1 (by decide)).trans J.2.2.2.1
          · exact (T1 (by decide)).trans J.2.2.2.2) ((T1 (by decide)).trans ((mk_at M (by decide)).trans f5)) ((T1 (by decide)).trans ((mk_at M (by decide)).trans f6)) ((T1 (by decide)).trans ((mk_at M (by decide)).trans f7))
        rw [st, en] at k
        exact k
  refine ⟨by decide, by decide, trivial, by decide, trivial, by decide, trivial, by decide, trivial, by decide, trivial, ?_⟩
  exact loop n 0 σ none none (Nat.zero_add n) (fw_okM_refl _ _) J1 rfl)
theorem fm_evening (hinj : nn_inj ad) : fw_H l cy ad wr cr D 152 6 sp_evening := fw_mk hinj (⟨"NameNotes", "evening", "()I"⟩, prog_1_method_47_code, 2, (Option.some Jvm.ClassFile.FieldType.int), 0, true, 0) rfl rfl nn_KI1_ok nn_KJ1_ok nn_PF1_ok nn_PS1_ok (by decide +kernel) rfl rfl (List.forall_mem_cons.mpr ⟨fw_row nn_PM1_ok (x := 377) (k := 0) (mn := 153) (np := 2) (ob := true) (ci := 2) (⟨"NameNotes$Evening", "read", "(LNameNotes$Tape;LNameNotes$Studio;)Z"⟩, prog_4_method_2_code, 5, (Option.some Jvm.ClassFile.FieldType.boolean), 2, true, 1) rfl (by decide +kernel) rfl rfl (by decide) (fun _ => ⟨_, _, rfl⟩) (fm_evRead hinj), (List.forall_mem_cons.mpr ⟨fw_row nn_PM1_ok (x := 380) (k := 0) (mn := 155) (np := 1) (ob := true) (ci := 2) (⟨"NameNotes$Evening", "judge", "(LNameNotes$Studio;)I"⟩, prog_4_method_4_code, 6, (Option.some Jvm.ClassFile.FieldType.int), 1, true, 0) rfl (by decide +kernel) rfl rfl (by decide) (fun _ => ⟨_, _, rfl⟩) (fm_judge hinj), (fun _ h => absurd h List.not_mem_nil)⟩)⟩) (fun as σ K h => by
  obtain ⟨A, rfl, hb, hN, hf, hg⟩ := h
  refine ⟨rfl, fun G hG => fs_evening_0 hG ⟨A, rfl, hb, hN, fun q σ1 M1 b c => fs_evening_15 hG ⟨fun _ => ?_, fun z => absurd fw_c0 z⟩, fun q σ1 M1 b hL hn h4 => fs_evening_15 hG ⟨fun z => absurd (fw_c1.symm.trans z) (by decide), fun _ => ?_⟩⟩⟩
  · have k := hf q (ab_ups σ1 1 1 (fw_c 0)) (fw_okM_ups (ev_up M1 (by decide)) (by decide)) (by rw [ab_ups_eq, fw_c0]) ((ab_ups_ne (by decide)).trans b)
    unfold v_ev at k
    rw [if_pos q] at k
    rw [c]
    exact k
  · have k0 := ev_rok q
    have M2 : ab_okM ef_M σ (ab_ups σ1 1 1 (fw_c 0)) := fw_okM_ups (ev_up M1 (by decide)) (by decide)
    have g1 : (ab_ups σ1 1 1 (fw_c 0)) 1 1 = 0 := by rw [ab_ups_eq, fw_c0]
    have g9 : (ab_ups σ1 1 1 (fw_c 0)) 1 9 = 0 := (ab_ups_ne (by decide)).trans b
    have g4 : (ab_ups σ1 1 1 (fw_c 0)) 69 4 = ev_c A (tp_t σ, (σ 1 1).toNat, 400) := (ab_ups_ne (by decide)).trans h4
    have gL : eL (ab_ups σ1 1 1 (fw_c 0)) A (tp_t σ, (σ 1 1).toNat, 400) (ev_r A (tp_t σ, (σ 1 1).toNat, 400)).2.2 := ⟨(ab_ups_ne (by decide)).trans hL.1, fun j hj => by
      rw [ab_ups_ne (fun z => absurd z.1 (by decide)), ab_ups_ne (fun z => absurd z.1 (by decide))]
      exact hL.2 j hj⟩
    generalize ab_ups σ1 1 1 (fw_c 0) = σ2 at M2 g1 g9 g4 gL ⊢
    have ck : fw_c (ev_c A (tp_t σ, (σ 1 1).toNat, 400)) = ev_c A (tp_t σ, (σ 1 1).toNat, 400) := by
      have k := pr_sk_0 (ev_h0 k0.1).2.1
      have n12 := hN.1.2.1
      show fw_c (pr_ix A _ 58 (A 49 12) _) = pr_ix A _ 58 (A 49 12) _
      exact fw_s (by omega) (by omega)
    refine ⟨A, _, _, rfl, ev_NC M2 (by decide +kernel) hN, gL, hn, k0.2, fun σ3 M3 J a5 a6 a7 => fs_evening_39 hG ?_⟩
    have k := hg q σ3 (ev_tr (ev_up M2 (by decide)) (ev_up M3 (by decide))) ((mk_row M3 (k := 1) (by decide) 1).trans g1) ((mk_row M3 (k := 1) (by decide) 9).trans g9) J (by rw [a5, g4, ck]) (by rw [a6, mk_row M2 (k := 3) (by decide) 15]) a7
    unfold v_ev at k
    rw [if_neg (fun z => z q)] at k
    exact k)
end
end
