section
/-! what a studio tells, what is kept of it, what may be taken back: both sides -/
def sw_T : List (Nat × Nat) := [(4, 81), (5, 81), (6, 9), (7, 324), (8, 6), (9, 45), (10, 5), (19, 81), (20, 81), (21, 9), (22, 324), (23, 6), (24, 45), (25, 5), (34, 81), (35, 81), (36, 9), (37, 324), (38, 6), (39, 45), (40, 5), (86, 88), (95, 232), (98, 400)]
def sw_L : List (Nat × Nat) := [(11, 9), (12, 6), (13, 5), (26, 9), (27, 6), (28, 5), (41, 9), (42, 6), (43, 5), (99, 20), (101, 40)]
def sw (k j : Nat) : Prop := (∃ q ∈ sw_T, k = q.1 ∧ j < q.2) ∨ (k = 85 ∧ j = 1) ∨ (k = 93 ∧ j = 24)
def sl (k j : Nat) : Prop := ∃ q ∈ sw_L, k = q.1 ∧ j < q.2
theorem sw_ck : sw_T.all (fun q => su_b q.1 0 (q.2 - 1) && (match nn_sh[q.1]? with | some (Sum.inr z) => !(z.1.beq 1) && q.2.ble z.2 | _ => false)) = true := by decide +kernel
theorem sl_ck : sw_L.all (fun q => sl_b q.1 0 (q.2 - 1) && (match nn_sh[q.1]? with | some (Sum.inr z) => z.1.beq 1 && q.2.ble z.2 | _ => false)) = true := by decide +kernel
theorem sw_f : (su_b 85 1 1 && su_b 93 24 24) = true := by decide +kernel
theorem sw_cn {σ : ab_SG} (hR : ab_okR nn_T σ) {k j : Nat} (h : sw k j) : fw_c (σ k j) = σ k j := by
  have hf := sw_f
  rw [Bool.and_eq_true] at hf
  rcases h with ⟨q, hq, rfl, hj⟩ | ⟨rfl, rfl⟩ | ⟨rfl, rfl⟩
  · have g := List.all_eq_true.mp sw_ck q hq
    rw [Bool.and_eq_true] at g
    exact su_b_ok g.1 hR (Nat.zero_le _) (by omega)
  · exact su_b_ok hf.1 hR (Nat.le_refl _) (Nat.le_refl _)
  · exact su_b_ok hf.2 hR (Nat.le_refl _) (Nat.le_refl _)
theorem sl_cn {σ : ab_SG} (hR : ab_okR nn_T σ) {k j : Nat} (h : sl k j) : fw_d (σ k j) = σ k j := by
  obtain ⟨q, hq, rfl, hj⟩ := h
  have g := List.all_eq_true.mp sl_ck q hq
  rw [Bool.and_eq_true] at g
  exact sl_b_ok g.1 hR (Nat.zero_le _) (by omega)
theorem sw_vw {cy : Nat → ClassId} {ad wr : Nat → Nat} {D : va_G} {σ σ' : ab_SG} {H : Heap} (h : va_P D vwCl (ab_WD cy ad wr nn_sh σ) H) (h' : va_P D vwCl (ab_WD cy ad wr nn_sh σ') H) {k j : Nat} (hs : sw k j) : fw_c (σ k j) = fw_c (σ' k j) := by
  rcases hs with ⟨q, hq, rfl, hj⟩ | ⟨rfl, rfl⟩ | ⟨rfl, rfl⟩
  · have g := List.all_eq_true.mp sw_ck q hq
    rw [Bool.and_eq_true] at g
    have g2 := g.2
    cases hz : nn_sh[q.1]? with
    | none => rw [hz] at g2; cases g2
    | some z =>
      cases z with
      | inl z => rw [hz] at g2; cases g2
      | inr z =>
        obtain ⟨t, n⟩ := z
        rw [hz] at g2
        have g3 : (!(t.beq 1) && q.2.ble n) = true := g2
        rw [Bool.and_eq_true] at g3
        have g4 := Nat.le_of_ble_eq_true g3.2
        refine wd_arr h h' (k := q.1) (t := t) (n := n) hz (fun e => ?_) (by omega)
        subst e
        exact absurd g3.1 (by decide)
  · exact wd_int h h' (k := 85) (j := 1) rfl rfl rfl (by decide)
  · exact wd_int h h' (k := 93) (j := 24) rfl rfl rfl (by decide)
theorem sl_vw {cy : Nat → ClassId} {ad wr : Nat → Nat} {D : va_G} {σ σ' : ab_SG} {H : Heap} (h : va_P D vwCl (ab_WD cy ad wr nn_sh σ) H) (h' : va_P D vwCl (ab_WD cy ad wr nn_sh σ') H) {k j : Nat} (hs : sl k j) : fw_d (σ k j) = fw_d (σ' k j) := by
  obtain ⟨q, hq, rfl, hj⟩ := hs
  have g := List.all_eq_true.mp sl_ck q hq
  rw [Bool.and_eq_true] at g
  have g2 := g.2
  cases hz : nn_sh[q.1]? with
  | none => rw [hz] at g2; cases g2
  | some z =>
    cases z with
    | inl z => rw [hz] at g2; cases g2
    | inr z =>
      obtain ⟨t, n⟩ := z
      rw [hz] at g2
      have g3 : (t.beq 1 && q.2.ble n) = true := g2
      rw [Bool.and_eq_true] at g3
      have g4 := Nat.le_of_ble_eq_true g3.2
      have g5 : t = 1 := Nat.eq_of_beq_eq_true g3.1
      subst g5
      exact wd_larr h h' (k := q.1) (n := n) hz (by omega)
/-- as a number that fits; one heap, two worlds -/
def cN (σ : ab_SG) : Prop := (∀ k j : Nat, su k j ∨ sw k j → fw_c (σ k j) = σ k j) ∧ ∀ k j : Nat, sl k j → fw_d (σ k j) = σ k j
def vW (σ' σ : ab_SG) : Prop := (∀ k j : Nat, su k j ∨ sw k j → σ' k j = fw_c (σ k j)) ∧ ∀ k j : Nat, sl k j → σ' k j = fw_d (σ k j)
theorem cN_of {σ : ab_SG} (h : ab_okR nn_T σ) : cN σ := ⟨fun k j hs => hs.elim (cn_of h k j) (sw_cn h), fun _ _ hs => sl_cn h hs⟩
theorem vW_of {cy : Nat → ClassId} {ad wr : Nat → Nat} {D : va_G} {σ σ' : ab_SG} {H : Heap} (hR : ab_okR nn_T σ) (h : va_P D vwCl (ab_WD cy ad wr nn_sh σ) H) (h' : va_P D vwCl (ab_WD cy ad wr nn_sh σ') H) : vW σ σ' :=
  ⟨fun k j hs => hs.elim (vw_of hR h h' k j) (fun hs => (sw_cn hR hs).symm.trans (sw_vw h h' hs)), fun _ _ hs => (sl_cn hR hs).symm.trans (sl_vw h h' hs)⟩
theorem cn_N {σ : ab_SG} (h : cN σ) : cn σ := fun k j hs => h.1 k j (Or.inl hs)
theorem vw_W {σ' σ : ab_SG} (h : vW σ' σ) : vw σ' σ := fun k j hs => h.1 k j (Or.inl hs)
theorem swr {k n : Nat} (hq : (k, n) ∈ sw_T) {j : Nat} (hj : j < n) : sw k j := Or.inl ⟨(k, n), hq, rfl, hj⟩
theorem slr {k n : Nat} (hq : (k, n) ∈ sw_L) {j : Nat} (hj : j < n) : sl k j := ⟨(k, n), hq, rfl, hj⟩
theorem sw85 : sw 85 1 := Or.inr (Or.inl ⟨rfl, rfl⟩)
theorem sw93 : sw 93 24 := Or.inr (Or.inr ⟨rfl, rfl⟩)
section
variable {M1 M2 : ab_ML} {σ σ1 σm σ2 σ5 : ab_SG}
theorem xm_at (hc : cN σ) (h1 : ab_okM M1 σ σ1) (hv : vW σm σ1) {k j : Nat} (hs : su k j ∨ sw k j) (b1 : mk_b M1 k j = true) : σm k j = σ k j := by
  rw [hv.1 k j hs, mk_at h1 b1]
  exact hc.1 k j hs
theorem xm_l (hc : cN σ) (h1 : ab_okM M1 σ σ1) (hv : vW σm σ1) {k j : Nat} (hs : sl k j) (b1 : mk_b M1 k j = true) : σm k j = σ k j := by
  rw [hv.2 k j hs, mk_at h1 b1]
  exact hc.2 k j hs
theorem xt_at (hc : cN σ) (h1 : ab_okM M1 σ σ1) (hv : vW σm σ1) (h2 : ab_okM M2 σm σ2) (hw : vW σ5 σ2) {k j : Nat} (hs : su k j ∨ sw k j) (b1 : mk_b M1 k j = true) (b2 : mk_b M2 k j = true) : σ5 k j = σ k j := by
  rw [hw.1 k j hs, mk_at h2 b2, xm_at hc h1 hv hs b1]
  exact hc.1 k j hs
theorem xt_l (hc : cN σ) (h1 : ab_okM M1 σ σ1) (hv : vW σm σ1) (h2 : ab_okM M2 σm σ2) (hw : vW σ5 σ2) {k j : Nat} (hs : sl k j) (b1 : mk_b M1 k j = true) (b2 : mk_b M2 k j = true) : σ5 k j = σ k j := by
  rw [hw.2 k j hs, mk_at h2 b2, xm_l hc h1 hv hs b1]
  exact hc.2 k j hs
end
def cp_n : List (Nat × Nat) := [(1, 81), (2, 81), (3, 9), (4, 324), (5, 6), (6, 45), (7, 5), (8, 9), (9, 6), (10, 5)]
theorem cp_sw : ∀ q ∈ cp_n, ∀ b : Nat, (b = 3 ∨ b = 18 ∨ b = 33) → (b + q.1, q.2) ∈ sw_T ∨ (b + q.1, q.2) ∈ sw_L := by
  intro q hq b hb
  have h : cp_n.all (fun q => [3, 18, 33].all (fun b => decide ((b + q.1, q.2) ∈ sw_T ∨ (b + q.1, q.2) ∈ sw_L))) = true := by decide +kernel
  have h1 := List.all_eq_true.mp (List.all_eq_true.mp h q hq) b (by rcases hb with rfl | rfl | rfl <;> decide)
  exact of_decide_eq_true h1
theorem cp_su {b j : Nat} (hb : b = 3 ∨ b = 18 ∨ b = 33) (h1 : 11 ≤ j) (h2 : j ≤ 14) : su b j := by
  rcases hb with rfl | rfl | rfl
  · exact su3 h1 h2
  · exact su18 (Or.inl ⟨h1, h2⟩)
  · exact su33 (Or.inl ⟨h1, h2⟩)
/-- a list that leaves a studio of the class -/
def rc_b (M : ab_ML) (b : Nat) : Bool := cp_n.all (fun q => M.all (fun z => !(z.1.beq (b + q.1)))) && [11, 12, 13, 14].all (fun j => mk_b M b j)
theorem off_mk {M : ab_ML} {k : Nat} (h : M.all (fun z => !(z.1.beq k)) = true) (j : Nat) : mk_b M k j = true := by
  refine List.all_eq_true.mpr (fun q hq => ?_)
  have h1 := List.all_eq_true.mp h q hq
  cases e : q.1.beq k with
  | true => rw [e] at h1; cases h1
  | false => rfl
theorem rc_f {M : ab_ML} {b j : Nat} (h : rc_b M b = true) (h1 : 11 ≤ j) (h2 : j ≤ 14) : mk_b M b j = true := by
  unfold rc_b at h
  rw [Bool.and_eq_true] at h
  refine List.all_eq_true.mp h.2 j ?_
  rcases (show j = 11 ∨ j = 12 ∨ j = 13 ∨ j = 14 by omega) with rfl | rfl | rfl | rfl <;> decide
theorem rc_r {M : ab_ML} {b : Nat} (h : rc_b M b = true) {q : Nat × Nat} (hq : q ∈ cp_n) (j : Nat) : mk_b M (b + q.1) j = true := by
  unfold rc_b at h
  rw [Bool.and_eq_true] at h
  exact off_mk (List.all_eq_true.mp h.1 q hq) j
def cb_is (σ' σ : ab_SG) (b : Nat) : Prop := (∀ j : Nat, 11 ≤ j → j ≤ 14 → σ' b j = σ b j) ∧ ∀ q ∈ cp_n, ∀ j : Nat, j < q.2 → σ' (b + q.1) j = σ (b + q.1) j
theorem cb_stay {M1 M2 : ab_ML} {σ σ1 σm σ2 σ5 : ab_SG} {b : Nat} (hb : b = 3 ∨ b = 18 ∨ b = 33) (hc : cN σ) (h1 : ab_okM M1 σ σ1) (hv : vW σm σ1) (h2 : ab_okM M2 σm σ2) (hw : vW σ5 σ2) (m1 : rc_b M1 b = true) (m2 : rc_b M2 b = true) : cb_is σ5 σ b := by
  refine ⟨fun j a c => xt_at hc h1 hv h2 hw (Or.inl (cp_su hb a c)) (rc_f m1 a c) (rc_f m2 a c), fun q hq j hj => ?_⟩
  rcases cp_sw q hq b hb with z | z
  · exact xt_at hc h1 hv h2 hw (Or.inr (swr z hj)) (rc_r m1 hq j) (rc_r m2 hq j)
  · exact xt_l hc h1 hv h2 hw (slr z hj) (rc_r m1 hq j) (rc_r m2 hq j)
theorem cn_cg {σ σ' A : ab_SG} {b : Nat} (hi : RI A) (e : cb_is σ' σ b) (h : cn_is σ b A) : cn_is σ' b A := by
  obtain ⟨e1, e2⟩ := e
  obtain ⟨i1, i2, i3, -, -, -, i7, -⟩ := hi
  obtain ⟨h1, h2, h3, h4, h5, h6, h7, h8, h9, h10⟩ := h
  have f : ∀ d n : Nat, (d, n) ∈ cp_n → ∀ j : Nat, j < n → σ' (b + d) j = σ (b + d) j := fun d n hq j hj => e2 (d, n) hq j hj
  refine ⟨(e1 11 (by decide) (by decide)).trans h1, (e1 12 (by decide) (by decide)).trans h2, (e1 13 (by decide) (by decide)).trans h3, (e1 14 (by decide) (by decide)).trans h4, fun x hx => ?_, fun c hc => ?_, fun j hj => (f 6 45 (by decide) j hj).trans (h7 j hj), fun j hj => (f 7 5 (by decide) j hj).trans (h8 j hj), fun p hp => (f 10 5 (by decide) p (by omega)).trans (h9 p hp), fun w x y hw hx hy => (f 4 324 (by decide) _ (by omega)).trans (h10 w x y hw hx hy)⟩
  · obtain ⟨a, c, d⟩ := h5 x hx
    refine ⟨(f 3 9 (by decide) x (by omega)).trans a, (f 8 9 (by decide) x (by omega)).trans c, fun i hi => ?_⟩
    have h9' := i7 x (by omega)
    exact ⟨(f 1 81 (by decide) _ (by omega)).trans (d i hi).1, (f 2 81 (by decide) _ (by omega)).trans (d i hi).2⟩
  · exact ⟨(f 5 6 (by decide) c (by omega)).trans (h6 c hc).1, (f 9 6 (by decide) c (by omega)).trans (h6 c hc).2⟩
theorem cn_see {σ σ' A : ab_SG} {b : Nat} (hi : RI A) (hn : nb_is A) (h : cn_is σ b A) (he : ∀ j : Nat, 11 ≤ j → j ≤ 14 → σ' b j = fw_c (σ b j)) (hd : ∀ d n : Nat, (d, n) ∈ [(1, 81), (2, 81), (3, 9), (4, 324), (5, 6), (6, 45), (7, 5)] → ∀ j : Nat, j < n → σ' (b + d) j = fw_c (σ (b + d) j)) (hl : ∀ d n : Nat, (d, n) ∈ [(8, 9), (9, 6), (10, 5)] → ∀ j : Nat, j < n → σ' (b + d) j = fw_d (σ (b + d) j)) : cn_is σ' b A := by
  have c : ∀ v : Int, 0 ≤ v → v ≤ 1000 → fw_c v = v := fun v h1 h2 => fw_c_id (by omega) (by omega)
  have i1 := hi.1
  have i2 := hi.2.1
  have i3 := hi.2.2.1
  obtain ⟨r1, r2, r3, r4, r5, r6, r7, r8, r9, r10⟩ := h
  have d1 : ∀ j : Nat, j < 81 → σ' (b + 1) j = fw_c (σ (b + 1) j) := fun j hj => hd 1 81 (by decide) j hj
  have d2 : ∀ j : Nat, j < 81 → σ' (b + 2) j = fw_c (σ (b + 2) j) := fun j hj => hd 2 81 (by decide) j hj
  have d3 : ∀ j : Nat, j < 9 → σ' (b + 3) j = fw_c (σ (b + 3) j) := fun j hj => hd 3 9 (by decide) j hj
  have d4 : ∀ j : Nat, j < 324 → σ' (b + 4) j = fw_c (σ (b + 4) j) := fun j hj => hd 4 324 (by decide) j hj
  have d5 : ∀ j : Nat, j < 6 → σ' (b + 5) j = fw_c (σ (b + 5) j) := fun j hj => hd 5 6 (by decide) j hj
  have d6 : ∀ j : Nat, j < 45 → σ' (b + 6) j = fw_c (σ (b + 6) j) := fun j hj => hd 6 45 (by decide) j hj
  have d7 : ∀ j : Nat, j < 5 → σ' (b + 7) j = fw_c (σ (b + 7) j) := fun j hj => hd 7 5 (by decide) j hj
  have d8 : ∀ j : Nat, j < 9 → σ' (b + 8) j = fw_d (σ (b + 8) j) := fun j hj => hl 8 9 (by decide) j hj
  have d9 : ∀ j : Nat, j < 6 → σ' (b + 9) j = fw_d (σ (b + 9) j) := fun j hj => hl 9 6 (by decide) j hj
  have d10 : ∀ j : Nat, j < 5 → σ' (b + 10) j = fw_d (σ (b + 10) j) := fun j hj => hl 10 5 (by decide) j hj
  have e1 : σ' b 11 = fw_c (σ b 11) := he 11 (by decide) (by decide)
  have e2 : σ' b 12 = fw_c (σ b 12) := he 12 (by decide) (by decide)
  have e3 : σ' b 13 = fw_c (σ b 13) := he 13 (by decide) (by decide)
  have e4 : σ' b 14 = fw_c (σ b 14) := he 14 (by decide) (by decide)
  refine ⟨?_, ?_, ?_, ?_, fun x hx => ⟨?_, ?_, fun i hi2 => ⟨?_, ?_⟩⟩, fun q hq => ⟨?_, ?_⟩, fun j hj => ?_, fun j hj => ?_, fun p hp => ?_, fun w x y hw hx hy => ?_⟩
  · rw [e1, r1]; exact c _ (by omega) (by omega)
  · rw [e2, r2]; exact c _ (by omega) (by omega)
  · rw [e3, r3]; exact c _ (by omega) (by omega)
  · have := hn.2.2.2.2
    rw [e4, r4]; exact c _ (by omega) (by omega)
  · have := hi.2.2.2.2.2.2.1 x (by omega)
    rw [d3 x (by omega), (r5 x hx).1]; exact c _ (by omega) (by omega)
  · rw [d8 x (by omega), (r5 x hx).2.1]; exact hi.2.2.2.1 x (by omega)
  · have hs := hi.2.2.2.2.2.2.1 x (by omega)
    have := (hn.1 x hx).2 i hi2
    rw [d1 _ (by omega), ((r5 x hx).2.2 i hi2).1]; exact c _ (by omega) (by omega)
  · have hs := hi.2.2.2.2.2.2.1 x (by omega)
    have := (hn.1 x hx).2 i hi2
    rw [d2 _ (by omega), ((r5 x hx).2.2 i hi2).2]; exact c _ (by omega) (by omega)
  · have h1 := hn.2.1 q hq
    have h2 := p2_mono (n := 9) (m := A 49 11) (by omega) (by omega) (by omega)
    have h3 : p2_n 9 = 512 := by decide
    rw [d5 q (by omega), (r6 q hq).1]; exact c _ (by omega) (by omega)
  · rw [d9 q (by omega), (r6 q hq).2]; exact hi.2.2.2.2.1 q (by omega)
  · have := hn.2.2.1 j hj
    rw [d6 j hj, r7 j hj]; exact c _ (by omega) (by omega)
  · have := hn.2.2.2.1 j hj
    rw [d7 j hj, r8 j hj]; exact c _ (by omega) (by omega)
  · rw [d10 p (by omega), r9 p hp]; exact hi.2.2.2.2.2.1 p (by omega)
  · have h1 := pr_cs_in (A := A) (x := (x : Int)) (y := (y : Int)) (w := (w : Int)) 9 0
    rw [d4 _ (by omega), r10 w x y hw hx hy]; exact c _ (by omega) (by omega)
theorem cp_si : ∀ d n : Nat, (d, n) ∈ [(1, 81), (2, 81), (3, 9), (4, 324), (5, 6), (6, 45), (7, 5)] → ∀ b : Nat, (b = 3 ∨ b = 18 ∨ b = 33) → (b + d, n) ∈ sw_T := by
  intro d n hq b hb
  have h : ([(1, 81), (2, 81), (3, 9), (4, 324), (5, 6), (6, 45), (7, 5)] : List (Nat × Nat)).all (fun q => [3, 18, 33].all (fun b => decide ((b + q.1, q.2) ∈ sw_T))) = true := by decide +kernel
  exact of_decide_eq_true (List.all_eq_true.mp (List.all_eq_true.mp h (d, n) hq) b (by rcases hb with rfl | rfl | rfl <;> decide))
theorem cp_sl : ∀ d n : Nat, (d, n) ∈ [(8, 9), (9, 6), (10, 5)] → ∀ b : Nat, (b = 3 ∨ b = 18 ∨ b = 33) → (b + d, n) ∈ sw_L := by
  intro d n hq b hb
  have h : ([(8, 9), (9, 6), (10, 5)] : List (Nat × Nat)).all (fun q => [3, 18, 33].all (fun b => decide ((b + q.1, q.2) ∈ sw_L))) = true := by decide +kernel
  exact of_decide_eq_true (List.all_eq_true.mp (List.all_eq_true.mp h (d, n) hq) b (by rcases hb with rfl | rfl | rfl <;> decide))
theorem cn_W {σ σ' A : ab_SG} {b : Nat} (hb : b = 3 ∨ b = 18 ∨ b = 33) (hi : RI A) (hn : nb_is A) (h : cn_is σ b A) (hv : vW σ' σ) : cn_is σ' b A :=
  cn_see hi hn h (fun j a c => hv.1 b j (Or.inl (cp_su hb a c))) (fun d n hq j hj => hv.1 (b + d) j (Or.inr (swr (cp_si d n hq b hb) hj))) (fun d n hq j hj => hv.2 (b + d) j (slr (cp_sl d n hq b hb) hj))
/-- one studio, told by both sides -/
def rc_is (σ : ab_SG) (b : Nat) (N W : Nat → Int) : Prop := ∃ A : ab_SG, RI A ∧ nb_is A ∧ cn_is σ b A ∧ sr_is N W A
/-- the reference's numbers, the first bid among them though no studio be laid -/
def mlN (σ : ab_SG) (j : Nat) : Int := if σ 93 22 = 0 ∧ j = 3 then 9 else σ 95 j
def ri_is (σ : ab_SG) (b q : Nat) : Prop := σ 102 q = 1 → rc_is σ b (fun j => σ 97 (474 * q + j)) (fun j => σ 101 (20 * q + j))
/-- one change: the row of the journal, the state ahead of it, the state behind it -/
def jt_is (m : Int) (R S T : Nat → Int) : Prop := ∃ p : Nat, p < 5 ∧ (p : Int) < m ∧ R 10 = (p : Int) ∧ (∀ x : Nat, x < 9 → R x = S (9 * p + x)) ∧ R 9 = S (45 + p) ∧ ∀ j : Nat, j < 50 → ¬ (9 * p ≤ j ∧ j < 9 * p + 9) → j ≠ 45 + p → S j = T j
def jS (σ : ab_SG) (n t j : Nat) : Int := if t = n then σ 95 (182 + j) else σ 98 (50 * t + j)
def jr_is (σ : ab_SG) : Prop := ∃ n : Nat, n ≤ 8 ∧ σ 85 1 = (n : Int) ∧ σ 93 24 = (n : Int) ∧ ∀ t : Nat, t < n → jt_is (σ 3 13) (fun i => σ 86 (11 * t + i)) (fun j => σ 98 (50 * t + j)) (jS σ n (t + 1))
def rx (σ : ab_SG) : Prop := rc_is σ 3 (mlN σ) (σ 99) ∧ ri_is σ 18 0 ∧ ri_is σ 33 1 ∧ jr_is σ
def RQ (σ : ab_SG) : Prop := RQ9 σ ∧ rx σ
theorem rc_cg {σ σ' : ab_SG} {b : Nat} {N N' W W' : Nat → Int} (e : cb_is σ' σ b) (e3 : ∀ j : Nat, j < 232 → j ≠ 4 → N' j = N j) (e4 : ∀ j : Nat, j < 20 → W' j = W j) (h : rc_is σ b N W) : rc_is σ' b N' W' := by
  obtain ⟨A, hi, hn, hc, hs⟩ := h
  exact ⟨A, hi, hn, cn_cg hi e hc, sr_cong hi e3 e4 hs⟩
theorem mlN_same {σ σ' : ab_SG} (h22 : σ' 93 22 = σ 93 22) (h : ∀ j : Nat, j < 232 → σ' 95 j = σ 95 j) (j : Nat) (hj : j < 232) : mlN σ' j = mlN σ j := by
  unfold mlN
  rw [h22, h j hj]
theorem mlN_ly {σ σ' : ab_SG} (h : ly_is σ σ') (h' : ∀ j : Nat, j < 232 → j ≠ 3 → σ' 95 j = σ 95 j) (j : Nat) (hj : j < 232) : mlN σ' j = mlN σ j := by
  obtain ⟨a, b, c⟩ := h
  unfold mlN
  rw [if_neg (fun z => by rw [a] at z; exact absurd z.1 (by decide))]
  by_cases e : j = 3
  · subst e
    by_cases z : σ 93 22 = 0
    · rw [if_pos ⟨z, rfl⟩]
      exact b z
    · rw [if_neg (fun y => z y.1)]
      exact c z
  · rw [if_neg (fun y => e y.2)]
    exact h' j hj e
theorem jt_cg {m m' : Int} {R R' S S' T T' : Nat → Int} (hm : m' = m) (hR : ∀ i : Nat, i < 11 → R' i = R i) (hS : ∀ j : Nat, j < 50 → S' j = S j) (hT : ∀ j : Nat, j < 50 → T' j = T j) (h : jt_is m R S T) : jt_is m' R' S' T' := by
  obtain ⟨p, hp, hq, a, b, c, d⟩ := h
  refine ⟨p, hp, by rw [hm]; exact hq, (hR 10 (by decide)).trans a, fun x hx => ?_, ?_, fun j hj h1 h2 => ?_⟩
  · rw [hR x (by omega), hS _ (by omega)]
    exact b x hx
  · rw [hR 9 (by decide), hS _ (by omega)]
    exact c
  · rw [hS j hj, hT j hj]
    exact d j hj h1 h2
theorem jr_cg {σ σ' : ab_SG} (e13 : σ' 3 13 = σ 3 13) (e85 : σ' 85 1 = σ 85 1) (e24 : σ' 93 24 = σ 93 24) (e86 : ∀ j : Nat, j < 88 → σ' 86 j = σ 86 j) (e98 : ∀ j : Nat, j < 400 → σ' 98 j = σ 98 j) (e95 : ∀ j : Nat, 182 ≤ j → j < 232 → σ' 95 j = σ 95 j) (h : jr_is σ) : jr_is σ' := by
  obtain ⟨n, hn, a, b, c⟩ := h
  refine ⟨n, hn, e85.trans a, e24.trans b, fun t ht => jt_cg e13 (fun i hi => e86 _ (by omega)) (fun j hj => e98 _ (by omega)) (fun j hj => ?_) (c t ht)⟩
  unfold jS
  by_cases z : t + 1 = n
  · rw [if_pos z, if_pos z]
    exact e95 _ (by omega) (by omega)
  · rw [if_neg z, if_neg z]
    exact e98 _ (by omega)
theorem jr_0 {σ : ab_SG} (h1 : σ 85 1 = 0) (h2 : σ 93 24 = 0) : jr_is σ := ⟨0, by decide, h1, h2, fun t ht => absurd ht (Nat.not_lt_zero t)⟩
theorem ri_cg {σ σ' : ab_SG} {b q : Nat} (hq : q < 2) (e : cb_is σ' σ b) (e2 : σ' 102 q = σ 102 q) (e7 : ∀ j : Nat, 474 * q ≤ j → j < 474 * q + 474 → σ' 97 j = σ 97 j) (e1 : ∀ j : Nat, 20 * q ≤ j → j < 20 * q + 20 → σ' 101 j = σ 101 j) (h : ri_is σ b q) : ri_is σ' b q := fun z =>
  rc_cg e (fun j hj _ => e7 _ (by omega) (by omega)) (fun j hj => e1 _ (by omega) (by omega)) (h (e2.symm.trans z))
theorem cb_M {M : ab_ML} {σ σ' : ab_SG} {b : Nat} (h : ab_okM M σ σ') (m : rc_b M b = true) : cb_is σ' σ b := ⟨fun j a c => mk_at h (rc_f m a c), fun q hq j _ => mk_at h (rc_r m hq j)⟩
/-- a list that leaves all of it; one that may lay a studio -/
def rx_c (M : ab_ML) : Bool := (rc_b M 3 && rc_b M 18 && rc_b M 33) && (M.all (fun q => !(q.1.beq 86)) && M.all (fun q => !(q.1.beq 98)) && M.all (fun q => !(q.1.beq 97)) && M.all (fun q => !(q.1.beq 101)) && M.all (fun q => !(q.1.beq 99)) && M.all (fun q => !(q.1.beq 102))) && (mk_b M 85 1 && mk_b M 93 24)
def rx_b (M : ab_ML) : Bool := rx_c M && (M.all (fun q => !(q.1.beq 95)) && mk_b M 93 22)
def rx_l (M : ab_ML) : Bool := rx_c M && M.all (fun q => !(q.1.beq 95) || q.2.beq 3)
theorem mk_95 {M : ab_ML} {σ σ' : ab_SG} (h : ab_okM M σ σ') (hb : M.all (fun q => !(q.1.beq 95) || q.2.beq 3) = true) {j : Nat} (hj : j < 232) (h3 : j ≠ 3) : σ' 95 j = σ 95 j := by
  refine h 95 j (fun q hq hh => ?_)
  have h1 := List.all_eq_true.mp hb q hq
  rw [hh.1, Nat.beq_refl, Bool.not_true, Bool.false_or] at h1
  have h2 := Nat.eq_of_beq_eq_true h1
  rcases hh.2 with z | z
  · exact h3 (z.symm.trans h2)
  · rw [h2] at z
    exact absurd z (by decide)
section
variable {M1 M2 : ab_ML} {σ σ1 σm σ2 σ5 : ab_SG}
theorem rx_rest (hc : cN σ) (h1 : ab_okM M1 σ σ1) (hv : vW σm σ1) (h2 : ab_okM M2 σm σ2) (hw : vW σ5 σ2) (m1 : rx_c M1 = true) (m2 : rx_c M2 = true) (h22 : ∀ j : Nat, j < 232 → mlN σ5 j = mlN σ j) (h95 : ∀ j : Nat, 182 ≤ j → j < 232 → σ5 95 j = σ 95 j) (h : rx σ) : rx σ5 := by
  unfold rx_c at m1 m2
  simp only [Bool.and_eq_true] at m1 m2
  obtain ⟨⟨⟨⟨a1, a2⟩, a3⟩, ⟨⟨⟨⟨⟨a4, a5⟩, a6⟩, a7⟩, a8⟩, a9⟩⟩, b1, b2⟩ := m1
  obtain ⟨⟨⟨⟨c1, c2⟩, c3⟩, ⟨⟨⟨⟨⟨c4, c5⟩, c6⟩, c7⟩, c8⟩, c9⟩⟩, d1, d2⟩ := m2
  obtain ⟨x1, x2, x3, x4⟩ := h
  have e3 : cb_is σ5 σ 3 := cb_stay (by decide) hc h1 hv h2 hw a1 c1
  have e97 : ∀ j : Nat, j < 948 → σ5 97 j = σ 97 j := fun j hj => xt_at hc h1 hv h2 hw (Or.inl (su97 hj)) (off_mk a6 j) (off_mk c6 j)
  have e101 : ∀ j : Nat, j < 40 → σ5 101 j = σ 101 j := fun j hj => xt_l hc h1 hv h2 hw (slr (by decide) hj) (off_mk a7 j) (off_mk c7 j)
  have e102 : ∀ j : Nat, j < 2 → σ5 102 j = σ 102 j := fun j hj => xt_at hc h1 hv h2 hw (Or.inl (su102 hj)) (off_mk a9 j) (off_mk c9 j)
  refine ⟨rc_cg e3 (fun j hj _ => h22 j hj) (fun j hj => xt_l hc h1 hv h2 hw (slr (by decide) hj) (off_mk a8 j) (off_mk c8 j)) x1, ri_cg (by decide) (cb_stay (by decide) hc h1 hv h2 hw a2 c2) (e102 0 (by decide)) (fun j _ hj => e97 j (by omega)) (fun j _ hj => e101 j (by omega)) x2, ri_cg (by decide) (cb_stay (by decide) hc h1 hv h2 hw a3 c3) (e102 1 (by decide)) (fun j _ hj => e97 j (by omega)) (fun j _ hj => e101 j (by omega)) x3, ?_⟩
  exact jr_cg (e3.1 13 (by decide) (by decide)) (xt_at hc h1 hv h2 hw (Or.inr sw85) b1 d1) (xt_at hc h1 hv h2 hw (Or.inr sw93) b2 d2) (fun j hj => xt_at hc h1 hv h2 hw (Or.inr (swr (by decide) hj)) (off_mk a4 j) (off_mk c4 j)) (fun j hj => xt_at hc h1 hv h2 hw (Or.inr (swr (by decide) hj)) (off_mk a5 j) (off_mk c5 j)) h95 x4
theorem rx_two (hc : cN σ) (h1 : ab_okM M1 σ σ1) (hv : vW σm σ1) (h2 : ab_okM M2 σm σ2) (hw : vW σ5 σ2) (m1 : rx_b M1 = true) (m2 : rx_b M2 = true) (h : rx σ) : rx σ5 := by
  unfold rx_b at m1 m2
  simp only [Bool.and_eq_true] at m1 m2
  have e95 : ∀ j : Nat, j < 232 → σ5 95 j = σ 95 j := fun j hj => xt_at hc h1 hv h2 hw (Or.inr (swr (by decide) hj)) (off_mk m1.2.1 j) (off_mk m2.2.1 j)
  exact rx_rest hc h1 hv h2 hw m1.1 m2.1 (fun j hj => mlN_same (xt_at hc h1 hv h2 hw (Or.inl (su93 (Or.inr rfl))) m1.2.2 m2.2.2) e95 j hj) (fun j _ hj => e95 j hj) h
theorem ly_W (hc : cN σ) (h1 : ab_okM M1 σ σ1) (hv : vW σm σ1) (m1 : (M1.all (fun q => !(q.1.beq 95)) && mk_b M1 93 22) = true) (hl : ly_is σm σ2) (hw : vW σ5 σ2) : ly_is σ σ5 := by
  rw [Bool.and_eq_true] at m1
  have e22 : σm 93 22 = σ 93 22 := xm_at hc h1 hv (Or.inl (su93 (Or.inr rfl))) m1.2
  have e3 : σm 95 3 = σ 95 3 := xm_at hc h1 hv (Or.inl (su95 (by decide))) (off_mk m1.1 3)
  obtain ⟨g1, g2, g3⟩ := hl
  refine ⟨?_, fun z => ?_, fun z => ?_⟩
  · rw [hw.1 93 22 (Or.inl (su93 (Or.inr rfl))), g1]
    exact fw_c_id (by decide) (by decide)
  · rw [hw.1 95 3 (Or.inl (su95 (by decide))), g2 (e22.trans z)]
    exact fw_c_id (by decide) (by decide)
  · rw [hw.1 95 3 (Or.inl (su95 (by decide))), g3 (by rw [e22]; exact z), e3]
    exact hc.1 95 3 (Or.inl (su95 (by decide)))
theorem rx_two_ly (hc : cN σ) (h1 : ab_okM M1 σ σ1) (hv : vW σm σ1) (h2 : ab_okM M2 σm σ2) (hw : vW σ5 σ2) (m1 : rx_b M1 = true) (m2 : rx_l M2 = true) (hl : ly_is σm σ2) (h : rx σ) : rx σ5 := by
  unfold rx_b at m1
  unfold rx_l at m2
  rw [Bool.and_eq_true] at m1 m2
  have e95 : ∀ j : Nat, j < 232 → j ≠ 3 → σ5 95 j = σ 95 j := fun j hj h3 => by
    rw [hw.1 95 j (Or.inr (swr (by decide) hj)), mk_95 h2 m2.2 hj h3, xm_at hc h1 hv (Or.inr (swr (by decide) hj)) (off_mk (by have := m1.2; rw [Bool.and_eq_true] at this; exact this.1) j)]
    exact hc.1 95 j (Or.inr (swr (by decide) hj))
  exact rx_rest hc h1 hv h2 hw m1.1 m2.1 (fun j hj => mlN_ly (ly_W hc h1 hv m1.2 hl hw) e95 j hj) (fun j a b => e95 j b (by omega)) h
end
theorem rx_9 {σ : ab_SG} (h : rx σ) : ∀ j : Nat, j < 45 → σ 9 j = σ 95 (182 + j) := fun j hj => by
  obtain ⟨⟨A, -, -, hc, hs⟩, -⟩ := h
  have a : σ 9 j = A 55 j := hc.2.2.2.2.2.2.1 j hj
  have b : mlN σ (182 + j) = A 55 j := hs.2.2.2.2.2.2.1 j hj
  unfold mlN at b
  rw [if_neg (fun z => by omega)] at b
  rw [a, b]
theorem rx_p {σ : ab_SG} (h : rx σ) : (0 ≤ σ 3 11 ∧ σ 3 11 ≤ 9) ∧ (0 ≤ σ 3 13 ∧ σ 3 13 ≤ 5) := by
  obtain ⟨⟨A, hi, -, hc, -⟩, -⟩ := h
  rw [hc.1, hc.2.2.1]
  exact ⟨hi.1, hi.2.2.1⟩
theorem rx_10 {σ : ab_SG} (h : rx σ) : ∀ j : Nat, (j : Int) < σ 3 13 → σ 10 j = σ 95 (227 + j) := fun j hj => by
  have h5 := (rx_p h).2.2
  obtain ⟨⟨A, hi, -, hc, hs⟩, -⟩ := h
  have a : σ 10 j = A 56 j := hc.2.2.2.2.2.2.2.1 j (by omega)
  have b : mlN σ (227 + j) = A 56 j := hs.2.2.2.2.2.2.2.1 j (by rw [← hc.2.2.1]; exact hj)
  unfold mlN at b
  rw [if_neg (fun z => by omega)] at b
  rw [a, b]
/-- ninths and daring as they now are -/
def mA (A : ab_SG) (X Y : Nat → Int) : ab_SG := fun k j => if k = 55 then X j else if k = 56 then Y j else A k j
theorem mA_ne {A : ab_SG} {X Y : Nat → Int} {k j : Nat} (h1 : k ≠ 55) (h2 : k ≠ 56) : mA A X Y k j = A k j := by
  unfold mA
  rw [if_neg h1, if_neg h2]
theorem mA_55 {A : ab_SG} {X Y : Nat → Int} {j : Nat} : mA A X Y 55 j = X j := if_pos rfl
theorem mA_56 {A : ab_SG} {X Y : Nat → Int} {j : Nat} : mA A X Y 56 j = Y j := by
  unfold mA
  rw [if_neg (by decide), if_pos rfl]
theorem rc_ch {σ σ' : ab_SG} (hok : ab_okR nn_T σ') (e1 : ∀ j : Nat, 11 ≤ j → j ≤ 14 → σ' 3 j = σ 3 j) (e2 : ∀ q ∈ cp_n, q.1 ≠ 6 → q.1 ≠ 7 → ∀ j : Nat, j < q.2 → σ' (3 + q.1) j = σ (3 + q.1) j) (e3 : ∀ j : Nat, j < 182 → σ' 95 j = σ 95 j) (e22 : σ' 93 22 = σ 93 22) (e4 : ∀ j : Nat, j < 20 → σ' 99 j = σ 99 j)
    (e5 : ∀ j : Nat, j < 45 → σ' 9 j = σ' 95 (182 + j)) (e6 : ∀ j : Nat, (j : Int) < σ 3 13 → σ' 10 j = σ' 95 (227 + j)) (e7 : ∀ j : Nat, σ 3 13 ≤ (j : Int) → j < 5 → σ' 10 j = σ 10 j) (h : rc_is σ 3 (mlN σ) (σ 99)) : rc_is σ' 3 (mlN σ') (σ' 99) := by
  obtain ⟨A, hi, hn, hc, hs⟩ := h
  have z : ∀ k j : Nat, k ≠ 55 → k ≠ 56 → mA A (σ' 9) (σ' 10) k j = A k j := fun k j a b => mA_ne a b
  have e13 : σ 3 13 = A 49 13 := hc.2.2.1
  have i1 := hi.1
  have i2 := hi.2.1
  have i3 := hi.2.2.1
  have i7 := hi.2.2.2.2.2.2.1
  have r9 : ∀ j : Nat, j < 50 → 0 ≤ σ' 95 (182 + j) ∧ σ' 95 (182 + j) ≤ 9 := fun j hj => ab_rdT_ok (r := (0, 9)) (k := 95) (a := 182) (b := 231) hok (by decide +kernel) (by omega) (by omega)
  refine ⟨mA A (σ' 9) (σ' 10), ?_, ?_, ?_, ?_⟩
  · obtain ⟨a1, a2, a3, a4, a5, a6, a7, a8⟩ := hi
    refine ⟨?_, ?_, ?_, fun j hj => ?_, fun j hj => ?_, fun j hj => ?_, fun j hj => ?_, ?_⟩
    · rw [z 49 11 (by decide) (by decide)]; exact a1
    · rw [z 49 12 (by decide) (by decide)]; exact a2
    · rw [z 49 13 (by decide) (by decide)]; exact a3
    · rw [z 57 j (by decide) (by decide)]; exact a4 j hj
    · rw [z 58 j (by decide) (by decide)]; exact a5 j hj
    · rw [z 59 j (by decide) (by decide)]; exact a6 j hj
    · rw [z 52 j (by decide) (by decide)]; exact a7 j hj
    · rw [z 48 4 (by decide) (by decide)]; exact a8
  · obtain ⟨b1, b2, b3, b4, b5⟩ := hn
    refine ⟨fun x hx => ?_, fun c hx => ?_, fun j hj => ?_, fun j hj => ?_, ?_⟩
    · rw [z 49 11 (by decide) (by decide)] at hx
      obtain ⟨u1, u2⟩ := b1 x hx
      refine ⟨by rw [z 52 x (by decide) (by decide)]; exact u1, fun i hi2 => ?_⟩
      rw [z 52 x (by decide) (by decide)] at hi2
      rw [z 50 _ (by decide) (by decide), z 51 _ (by decide) (by decide)]
      exact u2 i hi2
    · rw [z 49 12 (by decide) (by decide)] at hx
      rw [z 54 c (by decide) (by decide), z 49 11 (by decide) (by decide)]
      exact b2 c hx
    · rw [mA_55, e5 j hj]
      exact r9 j (by omega)
    · rw [mA_56]
      by_cases y : (j : Int) < σ 3 13
      · rw [e6 j y, show 227 + j = 182 + (45 + j) by omega]
        exact r9 (45 + j) (by omega)
      · rw [e7 j (by omega) hj, show σ 10 j = A 56 j from hc.2.2.2.2.2.2.2.1 j hj]
        exact b4 j hj
    · rw [z 49 14 (by decide) (by decide)]
      exact b5
  · obtain ⟨h1, h2, h3, h4, h5, h6, -, -, h9, h10⟩ := hc
    have f : ∀ d n : Nat, (d, n) ∈ cp_n → d ≠ 6 → d ≠ 7 → ∀ j : Nat, j < n → σ' (3 + d) j = σ (3 + d) j := fun d n hq a b j hj => e2 (d, n) hq a b j hj
    refine ⟨(e1 11 (by decide) (by decide)).trans (h1.trans (z 49 11 (by decide) (by decide)).symm), (e1 12 (by decide) (by decide)).trans (h2.trans (z 49 12 (by decide) (by decide)).symm), (e1 13 (by decide) (by decide)).trans (h3.trans (z 49 13 (by decide) (by decide)).symm), (e1 14 (by decide) (by decide)).trans (h4.trans (z 49 14 (by decide) (by decide)).symm), fun x hx => ?_, fun c hx => ?_, fun j _ => mA_55.symm, fun j _ => mA_56.symm, fun p hx => ?_, fun w x y hw hx hy => ?_⟩
    · rw [z 49 11 (by decide) (by decide)] at hx
      obtain ⟨a, c, d⟩ := h5 x hx
      have i7x := i7 x (by omega)
      refine ⟨(f 3 9 (by decide) (by decide) (by decide) x (by omega)).trans (a.trans (z 52 x (by decide) (by decide)).symm), (f 8 9 (by decide) (by decide) (by decide) x (by omega)).trans (c.trans (z 57 x (by decide) (by decide)).symm), fun i hx2 => ?_⟩
      rw [z 52 x (by decide) (by decide)] at hx2
      exact ⟨(f 1 81 (by decide) (by decide) (by decide) _ (by omega)).trans ((d i hx2).1.trans (z 50 _ (by decide) (by decide)).symm), (f 2 81 (by decide) (by decide) (by decide) _ (by omega)).trans ((d i hx2).2.trans (z 51 _ (by decide) (by decide)).symm)⟩
    · rw [z 49 12 (by decide) (by decide)] at hx
      exact ⟨(f 5 6 (by decide) (by decide) (by decide) c (by omega)).trans ((h6 c hx).1.trans (z 54 c (by decide) (by decide)).symm), (f 9 6 (by decide) (by decide) (by decide) c (by omega)).trans ((h6 c hx).2.trans (z 58 c (by decide) (by decide)).symm)⟩
    · rw [z 49 13 (by decide) (by decide)] at hx
      exact (f 10 5 (by decide) (by decide) (by decide) p (by omega)).trans ((h9 p hx).trans (z 59 p (by decide) (by decide)).symm)
    · rw [z 49 11 (by decide) (by decide)] at hx hy
      exact (f 4 324 (by decide) (by decide) (by decide) _ (by omega)).trans ((h10 w x y hw hx hy).trans (pr_cs_cg (z 49 11 (by decide) (by decide)).symm (fun j => (z 50 j (by decide) (by decide)).symm) (fun j => (z 51 j (by decide) (by decide)).symm) (fun j => (z 52 j (by decide) (by decide)).symm) 9 0))
  · obtain ⟨h1, h2, h3, h4, h5, h6, -, -, h9, h10, h11⟩ := hs
    have L : ∀ j : Nat, j < 182 → mlN σ' j = mlN σ j := fun j hj => by
      unfold mlN
      rw [e22, e3 j hj]
    refine ⟨(L 0 (by decide)).trans (h1.trans (z 49 11 (by decide) (by decide)).symm), (L 1 (by decide)).trans (h2.trans (z 49 12 (by decide) (by decide)).symm), (L 2 (by decide)).trans (h3.trans (z 49 13 (by decide) (by decide)).symm), (L 3 (by decide)).trans (h4.trans (z 49 14 (by decide) (by decide)).symm), fun x hx => ?_, fun c hx => ?_, fun j hj => ?_, fun j hj => ?_, fun j hx => ?_, fun j hx => ?_, fun j hx => ?_⟩
    · rw [z 49 11 (by decide) (by decide)] at hx
      obtain ⟨a, b⟩ := h5 x hx
      have i7x := i7 x (by omega)
      refine ⟨(L _ (by omega)).trans (a.trans (z 52 x (by decide) (by decide)).symm), fun i hx2 => ?_⟩
      rw [z 52 x (by decide) (by decide)] at hx2
      exact ⟨(L _ (by omega)).trans ((b i hx2).1.trans (z 50 _ (by decide) (by decide)).symm), (L _ (by omega)).trans ((b i hx2).2.trans (z 51 _ (by decide) (by decide)).symm)⟩
    · rw [z 49 12 (by decide) (by decide)] at hx
      exact (L _ (by omega)).trans ((h6 c hx).trans (z 54 c (by decide) (by decide)).symm)
    · rw [mA_55, e5 j hj]
      unfold mlN
      rw [if_neg (fun y => by omega)]
    · rw [z 49 13 (by decide) (by decide), ← e13] at hj
      rw [mA_56, e6 j hj]
      unfold mlN
      rw [if_neg (fun y => by omega)]
    · rw [z 49 11 (by decide) (by decide)] at hx
      rw [z 57 j (by decide) (by decide)]
      exact ⟨(h9 j hx).1, (e4 j (by omega)).trans (h9 j hx).2⟩
    · rw [z 49 12 (by decide) (by decide)] at hx
      rw [z 58 j (by decide) (by decide)]
      exact ⟨(h10 j hx).1, (e4 _ (by omega)).trans (h10 j hx).2⟩
    · rw [z 49 13 (by decide) (by decide)] at hx
      rw [z 59 j (by decide) (by decide)]
      exact ⟨(h11 j hx).1, (e4 _ (by omega)).trans (h11 j hx).2⟩
/-! bytes, a studio, images -/
theorem kM_feed {σ σ' : ab_SG} {a b c d e : Int} (h : k_feed a b c d e σ σ') : ab_okM ap_M σ σ' := by
  rcases h with ⟨-, h⟩ | ⟨-, g, -⟩
  · exact okM_of h
  · exact g
theorem kN_feed {σ σ' : ab_SG} {a b c d e : Int} (h : km_feed a b c d e σ σ') : ab_okM cm_M σ σ' := by
  rcases h with ⟨-, h⟩ | ⟨-, g, -⟩
  · rw [h]
    exact okM_sub okM_one (by decide)
  · exact g
theorem kM_end {σ σ' : ab_SG} {n : Int} (h : k_end n σ σ') : ab_okM [(1, 1)] σ σ' := by
  rcases h with ⟨-, h⟩ | ⟨-, h⟩
  · rw [h]
    exact okM_one
  · exact okM_of h
theorem kN_end {σ σ' : ab_SG} {n : Int} (h : km_end n σ σ') : ab_okM [(93, 0), (93, 2)] σ σ' := by
  rcases h with ⟨-, h⟩ | ⟨-, h⟩
  · rw [h]
    exact okM_two
  · rw [h]
    exact okM_sub okM_one (by decide)
section
variable {σ σ1 σm σ2 σ5 : ab_SG}
theorem RQ_feed {a b c d e : Int} (hc : cN σ) (hR : RQ σ) (h1 : k_feed a b c d e σ σ1) (hv : vW σm σ1) (h2 : km_feed a b c d e σm σ2) (hw : vW σ5 σ2) : RQ σ5 :=
  ⟨RQ9_tr (vw_W hw) (rr_feed (cn_N hc) hR.1 h1 (vw_W hv) h2), rx_two hc (kM_feed h1) hv (kN_feed h2) hw (by decide +kernel) (by decide +kernel) hR.2⟩
theorem RQ_end {n : Int} (hc : cN σ) (hR : RQ σ) (h1 : k_end n σ σ1) (hv : vW σm σ1) (h2 : km_end n σm σ2) (hw : vW σ5 σ2) : RQ σ5 :=
  ⟨RQ9_tr (vw_W hw) (rr_end (cn_N hc) hR.1 h1 (vw_W hv) h2), rx_two hc (kM_end h1) hv (kN_end h2) hw (by decide +kernel) (by decide +kernel) hR.2⟩
def ri_b (M : ab_ML) (b : Nat) : Bool := rc_b M b && (M.all (fun q => !(q.1.beq 97)) && M.all (fun q => !(q.1.beq 101)) && M.all (fun q => !(q.1.beq 102)))
theorem ri_two {M1 M2 : ab_ML} {b q : Nat} (hb : b = 3 ∨ b = 18 ∨ b = 33) (hq : q < 2) (hc : cN σ) (h1 : ab_okM M1 σ σ1) (hv : vW σm σ1) (h2 : ab_okM M2 σm σ2) (hw : vW σ5 σ2) (m1 : ri_b M1 b = true) (m2 : ri_b M2 b = true) (h : ri_is σ b q) : ri_is σ5 b q := by
  unfold ri_b at m1 m2
  simp only [Bool.and_eq_true] at m1 m2
  obtain ⟨a1, ⟨a2, a3⟩, a4⟩ := m1
  obtain ⟨b1, ⟨b2, b3⟩, b4⟩ := m2
  exact ri_cg hq (cb_stay hb hc h1 hv h2 hw a1 b1) (xt_at hc h1 hv h2 hw (Or.inl (su102 hq)) (off_mk a4 q) (off_mk b4 q)) (fun j _ hj => xt_at hc h1 hv h2 hw (Or.inl (su97 (by omega))) (off_mk a2 j) (off_mk b2 j)) (fun j _ hj => xt_l hc h1 hv h2 hw (slr (k := 101) (n := 40) (by decide) (by omega)) (off_mk a3 j) (off_mk b3 j)) h
theorem RQ_studio {A : ab_SG} (hc : cN σ) (hR : RQ σ) (h1 : k_studio A σ σ1) (hv : vW σm σ1) (h2 : km_studio A (tp_t σ) σm σ2) (hw : vW σ5 σ2) : RQ σ5 := by
  refine ⟨rr_studio (cn_N hc) hR.1 h1 (vw_W hv) h2 (vw_W hw), ?_⟩
  have e2 : σm 93 2 = σ 93 2 := mid_studio (cn_N hc) h1 (vw_W hv) (su93 (Or.inl rfl)) (by decide) (by decide)
  obtain ⟨⟨⟨r1, -⟩, -⟩, hx⟩ := hR
  obtain ⟨-, -, h1⟩ := h1
  unfold km_studio at h2
  rw [e2, ← r1] at h2
  rcases h1 with ⟨g1, g2, -⟩ | ⟨g1, g2⟩
  · rcases h2 with ⟨-, q2, -, q4⟩ | ⟨q1, -⟩
    · exact rx_two_ly hc g2 hv q2 hw (by decide +kernel) (by decide +kernel) q4 hx
    · exact absurd q1 g1
  · rcases h2 with ⟨q1, -⟩ | ⟨-, q2⟩
    · exact absurd g1 q1
    · obtain ⟨s1, -, -, i1, i2, s6, -, -, s9, -⟩ := g2
      obtain ⟨w1, -, -, w4, w5, -, -, w8, -⟩ := q2
      have z22 : σ5 93 22 = 1 := by
        rw [hw.1 93 22 (Or.inl (su93 (Or.inr rfl))), w4]
        exact fw_c_id (by decide) (by decide)
      refine ⟨⟨_, i1, i2, cn_W (by decide) i1 i2 (cn_cg i1 (cb_M w1 (by decide +kernel)) (cn_W (by decide) i1 i2 s6 hv)) hw, ?_⟩, ri_two (by decide) (by decide) hc s1 hv w1 hw (by decide +kernel) (by decide +kernel) hx.2.1, ri_two (by decide) (by decide) hc s1 hv w1 hw (by decide +kernel) (by decide +kernel) hx.2.2.1, jr_0 ?_ ?_⟩
      · refine sr_cong i1 (fun j hj _ => ?_) (fun j hj => hw.2 99 j (slr (by decide) hj)) (sr_can i1 i2 w8)
        show mlN σ5 j = fw_c (σ2 95 j)
        unfold mlN
        rw [if_neg (fun z => by rw [z22] at z; exact absurd z.1 (by decide))]
        exact hw.1 95 j (Or.inr (swr (by decide) hj))
      · rw [hw.1 85 1 (Or.inr sw85), mk_at w1 (by decide +kernel), hv.1 85 1 (Or.inr sw85), s9]
        exact (fw_c_c 0).trans fw_c0
      · rw [hw.1 93 24 (Or.inr sw93), w5]
        exact fw_c0
theorem rx_image0 {s1 : ab_SG} (hc : cN σ) (hR : RQ σ) (g2 : ab_okM (im_M 18) σ σ1) (g3 : cy_is σ σ1 3 18) (hv : vW σm σ1) (q1 : ab_okM lm_M σm s1) (q2 : ly_is σm s1) (q3 : kp_is s1 σ2 0) (hw : vW σ5 σ2) : rx σ5 := by
  obtain ⟨-, x1, x2, x3, x4⟩ := hR
  have w := km_two q1 q3.1
  have l2 : ly_is σm σ2 := kp_ly q2 q3
  have e22 : σm 93 22 = σ 93 22 := xm_at hc g2 hv (Or.inl (su93 (Or.inr rfl))) (by decide +kernel)
  have m95 : ∀ j : Nat, j < 232 → σm 95 j = σ 95 j := fun j hj => xm_at hc g2 hv (Or.inr (swr (by decide) hj)) (off_mk (by decide +kernel) j)
  have e95 : ∀ j : Nat, j < 232 → j ≠ 3 → σ5 95 j = σ 95 j := fun j hj h3 => by
    rw [hw.1 95 j (Or.inr (swr (by decide) hj)), mk_95 w (by decide +kernel) hj h3, m95 j hj]
    exact hc.1 95 j (Or.inr (swr (by decide) hj))
  have mlN5 : ∀ j : Nat, j < 232 → mlN σ5 j = mlN σ j := mlN_ly (ly_W hc g2 hv (by decide +kernel) l2 hw) e95
  have ls : ly_is σ s1 := ⟨q2.1, fun z => q2.2.1 (e22.trans z), fun z => (q2.2.2 (by rw [e22]; exact z)).trans (m95 3 (by decide))⟩
  have s95 : ∀ j : Nat, j < 232 → s1 95 j = mlN σ j := fun j hj => by
    have h9 := mlN_ly ls (fun j hj h3 => (mk_95 q1 (by decide +kernel) hj h3).trans (m95 j hj)) j hj
    rw [← h9]
    unfold mlN
    rw [if_neg (fun z => by rw [q2.1] at z; exact absurd z.1 (by decide))]
  obtain ⟨p1, p2, p3, p4, p5, p6, p7⟩ := q3
  have new : ri_is σ5 18 0 := fun _ => by
    obtain ⟨A, hi, hn, hc2, hs⟩ := x1
    refine ⟨A, hi, hn, cn_W (by decide) hi hn (cn_cg hi (cb_M w (by decide +kernel)) (cn_W (by decide) hi hn (cn_copy hi hn hc2 g3) hv)) hw, sr_cong hi (fun j hj h4 => ?_) (fun j hj => ?_) (sr_can hi hn hs)⟩
    · show σ5 97 (474 * 0 + j) = fw_c (mlN σ j)
      rw [hw.1 97 _ (Or.inl (su97 (by omega))), p2 j (by omega), fw_c_c, s95 j hj]
    · show σ5 101 (20 * 0 + j) = fw_d (σ 99 j)
      rw [hw.2 101 _ (slr (n := 40) (by decide) (by omega)), p3 j hj, fw_d_d, mk_row q1 (k := 99) (by decide +kernel), xm_l hc g2 hv (slr (k := 99) (n := 20) (by decide) hj) (off_mk (by decide +kernel) j)]
  have old : ri_is σ5 33 1 := by
    refine ri_cg (by decide) (cb_stay (by decide) hc g2 hv w hw (by decide +kernel) (by decide +kernel)) ?_ (fun j a c => ?_) (fun j a c => ?_) x3
    · rw [hw.1 102 1 (Or.inl (su102 (by decide))), p7 1 (by decide), mk_row q1 (k := 102) (by decide +kernel), xm_at hc g2 hv (Or.inl (su102 (by decide))) (off_mk (by decide +kernel) _)]
      exact hc.1 102 1 (Or.inl (su102 (by decide)))
    · rw [hw.1 97 j (Or.inl (su97 (by omega))), p4 j (by omega), mk_row q1 (k := 97) (by decide +kernel), xm_at hc g2 hv (Or.inl (su97 (by omega))) (off_mk (by decide +kernel) j)]
      exact hc.1 97 j (Or.inl (su97 (by omega)))
    · rw [hw.2 101 j (slr (n := 40) (by decide) (by omega)), p5 j (by omega), mk_row q1 (k := 101) (by decide +kernel), xm_l hc g2 hv (slr (k := 101) (n := 40) (by decide) (by omega)) (off_mk (by decide +kernel) j)]
      exact hc.2 101 j (slr (n := 40) (by decide) (by omega))
  refine ⟨rc_cg (cb_stay (by decide) hc g2 hv w hw (by decide +kernel) (by decide +kernel)) (fun j hj _ => mlN5 j hj) (fun j hj => xt_l hc g2 hv w hw (slr (by decide) hj) (off_mk (by decide +kernel) j) (off_mk (by decide +kernel) j)) x1, new, old, ?_⟩
  exact jr_cg (xt_at hc g2 hv w hw (Or.inl (su3 (by decide) (by decide))) (by decide +kernel) (by decide +kernel)) (xt_at hc g2 hv w hw (Or.inr sw85) (by decide +kernel) (by decide +kernel)) (xt_at hc g2 hv w hw (Or.inr sw93) (by decide +kernel) (by decide +kernel)) (fun j hj => xt_at hc g2 hv w hw (Or.inr (swr (by decide) hj)) (off_mk (by decide +kernel) j) (off_mk (by decide +kernel) j)) (fun j hj => xt_at hc g2 hv w hw (Or.inr (swr (by decide) hj)) (off_mk (by decide +kernel) j) (off_mk (by decide +kernel) j)) (fun j a hj => e95 j hj (by omega)) x4
theorem rx_back0 (hc : cN σ) (hR : RQ σ) (g1 : σ 102 0 = 1) (g2 : ab_okM re_M σ σ1) (g3 : cy_is σ σ1 18 3) (g4 : σ1 85 1 = 0) (hv : vW σm σ1) (q3 : tb_is σm σ2 0) (hw : vW σ5 σ2) : rx σ5 := by
  obtain ⟨⟨-, rB, -⟩, x1, x2, x3, x4⟩ := hR
  obtain ⟨w, p2, p3, p4⟩ := q3
  have e22 : σ5 93 22 = 1 := by
    rw [xt_at hc g2 hv w hw (Or.inl (su93 (Or.inr rfl))) (by decide +kernel) (by decide +kernel)]
    rcases rB.2.2.2 with ⟨a, -⟩ | ⟨-, -, a, b, -⟩
    · exact a
    · rw [a] at g1
      exact absurd g1 (by decide)
  refine ⟨?_, ri_two (by decide) (by decide) hc g2 hv w hw (by decide +kernel) (by decide +kernel) x2, ri_two (by decide) (by decide) hc g2 hv w hw (by decide +kernel) (by decide +kernel) x3, jr_0 ?_ ?_⟩
  · obtain ⟨A, hi, hn, hc2, hs⟩ := x2 g1
    refine ⟨A, hi, hn, cn_W (by decide) hi hn (cn_cg hi (cb_M w (by decide +kernel)) (cn_W (by decide) hi hn (cn_copy hi hn hc2 g3) hv)) hw, sr_cong hi (fun j hj h4 => ?_) (fun j hj => ?_) (sr_can hi hn hs)⟩
    · show mlN σ5 j = fw_c (σ 97 (474 * 0 + j))
      unfold mlN
      rw [if_neg (fun z => by rw [e22] at z; exact absurd z.1 (by decide)), hw.1 95 j (Or.inr (swr (by decide) hj)), p2 j (by omega), fw_c_c, xm_at hc g2 hv (Or.inl (su97 (by omega))) (off_mk (by decide +kernel) _)]
    · show σ5 99 j = fw_d (σ 101 (20 * 0 + j))
      rw [hw.2 99 j (slr (by decide) hj), p3 j hj, fw_d_d, xm_l hc g2 hv (slr (k := 101) (n := 40) (by decide) (by omega)) (off_mk (by decide +kernel) _)]
  · rw [hw.1 85 1 (Or.inr sw85), mk_at w (by decide +kernel), hv.1 85 1 (Or.inr sw85), g4]
    exact (fw_c_c 0).trans fw_c0
  · rw [hw.1 93 24 (Or.inr sw93), p4]
    exact fw_c0
theorem rx_image1 {s1 : ab_SG} (hc : cN σ) (hR : RQ σ) (g2 : ab_okM (im_M 33) σ σ1) (g3 : cy_is σ σ1 3 33) (hv : vW σm σ1) (q1 : ab_okM lm_M σm s1) (q2 : ly_is σm s1) (q3 : kp_is s1 σ2 1) (hw : vW σ5 σ2) : rx σ5 := by
  obtain ⟨-, x1, x2, x3, x4⟩ := hR
  have w := km_two q1 q3.1
  have l2 : ly_is σm σ2 := kp_ly q2 q3
  have e22 : σm 93 22 = σ 93 22 := xm_at hc g2 hv (Or.inl (su93 (Or.inr rfl))) (by decide +kernel)
  have m95 : ∀ j : Nat, j < 232 → σm 95 j = σ 95 j := fun j hj => xm_at hc g2 hv (Or.inr (swr (by decide) hj)) (off_mk (by decide +kernel) j)
  have e95 : ∀ j : Nat, j < 232 → j ≠ 3 → σ5 95 j = σ 95 j := fun j hj h3 => by
    rw [hw.1 95 j (Or.inr (swr (by decide) hj)), mk_95 w (by decide +kernel) hj h3, m95 j hj]
    exact hc.1 95 j (Or.inr (swr (by decide) hj))
  have mlN5 : ∀ j : Nat, j < 232 → mlN σ5 j = mlN σ j := mlN_ly (ly_W hc g2 hv (by decide +kernel) l2 hw) e95
  have ls : ly_is σ s1 := ⟨q2.1, fun z => q2.2.1 (e22.trans z), fun z => (q2.2.2 (by rw [e22]; exact z)).trans (m95 3 (by decide))⟩
  have s95 : ∀ j : Nat, j < 232 → s1 95 j = mlN σ j := fun j hj => by
    have h9 := mlN_ly ls (fun j hj h3 => (mk_95 q1 (by decide +kernel) hj h3).trans (m95 j hj)) j hj
    rw [← h9]
    unfold mlN
    rw [if_neg (fun z => by rw [q2.1] at z; exact absurd z.1 (by decide))]
  obtain ⟨p1, p2, p3, p4, p5, p6, p7⟩ := q3
  have new : ri_is σ5 33 1 := fun _ => by
    obtain ⟨A, hi, hn, hc2, hs⟩ := x1
    refine ⟨A, hi, hn, cn_W (by decide) hi hn (cn_cg hi (cb_M w (by decide +kernel)) (cn_W (by decide) hi hn (cn_copy hi hn hc2 g3) hv)) hw, sr_cong hi (fun j hj h4 => ?_) (fun j hj => ?_) (sr_can hi hn hs)⟩
    · show σ5 97 (474 * 1 + j) = fw_c (mlN σ j)
      rw [hw.1 97 _ (Or.inl (su97 (by omega))), p2 j (by omega), fw_c_c, s95 j hj]
    · show σ5 101 (20 * 1 + j) = fw_d (σ 99 j)
      rw [hw.2 101 _ (slr (n := 40) (by decide) (by omega)), p3 j hj, fw_d_d, mk_row q1 (k := 99) (by decide +kernel), xm_l hc g2 hv (slr (k := 99) (n := 20) (by decide) hj) (off_mk (by decide +kernel) j)]
  have old : ri_is σ5 18 0 := by
    refine ri_cg (by decide) (cb_stay (by decide) hc g2 hv w hw (by decide +kernel) (by decide +kernel)) ?_ (fun j a c => ?_) (fun j a c => ?_) x2
    · rw [hw.1 102 0 (Or.inl (su102 (by decide))), p7 0 (by decide), mk_row q1 (k := 102) (by decide +kernel), xm_at hc g2 hv (Or.inl (su102 (by decide))) (off_mk (by decide +kernel) _)]
      exact hc.1 102 0 (Or.inl (su102 (by decide)))
    · rw [hw.1 97 j (Or.inl (su97 (by omega))), p4 j (by omega), mk_row q1 (k := 97) (by decide +kernel), xm_at hc g2 hv (Or.inl (su97 (by omega))) (off_mk (by decide +kernel) j)]
      exact hc.1 97 j (Or.inl (su97 (by omega)))
    · rw [hw.2 101 j (slr (n := 40) (by decide) (by omega)), p5 j (by omega), mk_row q1 (k := 101) (by decide +kernel), xm_l hc g2 hv (slr (k := 101) (n := 40) (by decide) (by omega)) (off_mk (by decide +kernel) j)]
      exact hc.2 101 j (slr (n := 40) (by decide) (by omega))
  refine ⟨rc_cg (cb_stay (by decide) hc g2 hv w hw (by decide +kernel) (by decide +kernel)) (fun j hj _ => mlN5 j hj) (fun j hj => xt_l hc g2 hv w hw (slr (by decide) hj) (off_mk (by decide +kernel) j) (off_mk (by decide +kernel) j)) x1, old, new, ?_⟩
  exact jr_cg (xt_at hc g2 hv w hw (Or.inl (su3 (by decide) (by decide))) (by decide +kernel) (by decide +kernel)) (xt_at hc g2 hv w hw (Or.inr sw85) (by decide +kernel) (by decide +kernel)) (xt_at hc g2 hv w hw (Or.inr sw93) (by decide +kernel) (by decide +kernel)) (fun j hj => xt_at hc g2 hv w hw (Or.inr (swr (by decide) hj)) (off_mk (by decide +kernel) j) (off_mk (by decide +kernel) j)) (fun j hj => xt_at hc g2 hv w hw (Or.inr (swr (by decide) hj)) (off_mk (by decide +kernel) j) (off_mk (by decide +kernel) j)) (fun j a hj => e95 j hj (by omega)) x4
theorem rx_back1 (hc : cN σ) (hR : RQ σ) (g1 : σ 102 1 = 1) (g2 : ab_okM re_M σ σ1) (g3 : cy_is σ σ1 33 3) (g4 : σ1 85 1 = 0) (hv : vW σm σ1) (q3 : tb_is σm σ2 1) (hw : vW σ5 σ2) : rx σ5 := by
  obtain ⟨⟨-, rB, -⟩, x1, x2, x3, x4⟩ := hR
  obtain ⟨w, p2, p3, p4⟩ := q3
  have e22 : σ5 93 22 = 1 := by
    rw [xt_at hc g2 hv w hw (Or.inl (su93 (Or.inr rfl))) (by decide +kernel) (by decide +kernel)]
    rcases rB.2.2.2 with ⟨a, -⟩ | ⟨-, -, a, b, -⟩
    · exact a
    · rw [b] at g1
      exact absurd g1 (by decide)
  refine ⟨?_, ri_two (by decide) (by decide) hc g2 hv w hw (by decide +kernel) (by decide +kernel) x2, ri_two (by decide) (by decide) hc g2 hv w hw (by decide +kernel) (by decide +kernel) x3, jr_0 ?_ ?_⟩
  · obtain ⟨A, hi, hn, hc2, hs⟩ := x3 g1
    refine ⟨A, hi, hn, cn_W (by decide) hi hn (cn_cg hi (cb_M w (by decide +kernel)) (cn_W (by decide) hi hn (cn_copy hi hn hc2 g3) hv)) hw, sr_cong hi (fun j hj h4 => ?_) (fun j hj => ?_) (sr_can hi hn hs)⟩
    · show mlN σ5 j = fw_c (σ 97 (474 * 1 + j))
      unfold mlN
      rw [if_neg (fun z => by rw [e22] at z; exact absurd z.1 (by decide)), hw.1 95 j (Or.inr (swr (by decide) hj)), p2 j (by omega), fw_c_c, xm_at hc g2 hv (Or.inl (su97 (by omega))) (off_mk (by decide +kernel) _)]
    · show σ5 99 j = fw_d (σ 101 (20 * 1 + j))
      rw [hw.2 99 j (slr (by decide) hj), p3 j hj, fw_d_d, xm_l hc g2 hv (slr (k := 101) (n := 40) (by decide) (by omega)) (off_mk (by decide +kernel) _)]
  · rw [hw.1 85 1 (Or.inr sw85), mk_at w (by decide +kernel), hv.1 85 1 (Or.inr sw85), g4]
    exact (fw_c_c 0).trans fw_c0
  · rw [hw.1 93 24 (Or.inr sw93), p4]
    exact fw_c0
theorem RQ_image {k : Int} (hc : cN σ) (hR : RQ σ) (h1 : k_image k σ σ1) (hv : vW σm σ1) (h2 : km_image k σm σ2) (hw : vW σ5 σ2) : RQ σ5 := by
  refine ⟨RQ9_tr (vw_W hw) (rr_image (cn_N hc) hR.1 h1 (vw_W hv) h2), ?_⟩
  rcases h1 with ⟨a, b, h⟩ | ⟨a, g2, g3, g4⟩ | ⟨a, g2, g3, g4⟩
  · have s1 : ab_okM [] σ σ1 := okM_of h
    rcases h2 with ⟨-, -, q2, q3⟩ | ⟨q, t1, hq, hk, -⟩
    · exact rx_two_ly hc s1 hv q2 hw (by decide +kernel) (by decide +kernel) q3 hR.2
    · rcases q_of hq hk with ⟨z, -⟩ | ⟨z, -⟩
      · exact absurd z a
      · exact absurd z b
  · rcases h2 with ⟨z, -⟩ | ⟨q, t1, hq, hk, q1, q2, q3⟩
    · exact absurd a z
    · rcases q_of hq hk with ⟨-, rfl⟩ | ⟨z, -⟩
      · exact rx_image0 hc hR g2 g3 hv q1 q2 q3 hw
      · omega
  · rcases h2 with ⟨-, z, -⟩ | ⟨q, t1, hq, hk, q1, q2, q3⟩
    · exact absurd a z
    · rcases q_of hq hk with ⟨z, -⟩ | ⟨-, rfl⟩
      · omega
      · exact rx_image1 hc hR g2 g3 hv q1 q2 q3 hw
theorem RQ_restore {k : Int} (hc : cN σ) (hR : RQ σ) (h1 : k_restore k σ σ1) (hv : vW σm σ1) (h2 : km_restore k σm σ2) (hw : vW σ5 σ2) : RQ σ5 := by
  refine ⟨RQ9_tr (vw_W hw) (rr_restore (cn_N hc) hR.1 h1 (vw_W hv) h2), ?_⟩
  have e : ∀ r : Nat, r < 2 → σm 102 r = σ 102 r := fun r hr => mid_restore (cn_N hc) h1 (vw_W hv) (a := 102) (by decide) r (su102 hr)
  have f0 : σ 18 16 = σ 102 0 := hR.1.2.2.1.1
  have f1 : σ 33 16 = σ 102 1 := hR.1.2.2.2.1
  have e0 := e 0 (by decide)
  have e1 := e 1 (by decide)
  rcases h1 with ⟨a, h⟩ | ⟨a, b, g2, g3, g4⟩ | ⟨a, b, g2, g3, g4⟩
  · have s1 : ab_okM [] σ σ1 := okM_of h
    rcases h2 with ⟨-, h9⟩ | ⟨q, hq, hk, q1, -⟩
    · have s2 : ab_okM [(93, 0)] σm σ2 := by
        rw [h9]
        exact okM_one
      exact rx_two hc s1 hv s2 hw (by decide +kernel) (by decide +kernel) hR.2
    · rcases q_of hq hk with ⟨z, rfl⟩ | ⟨z, rfl⟩
      · rcases a with a | a | a <;> omega
      · rcases a with a | a | a <;> omega
  · rcases h2 with ⟨q1 | ⟨q, hq, hk, q1⟩, -⟩ | ⟨q, hq, hk, q1, q2⟩
    · omega
    · rcases q_of hq hk with ⟨z, rfl⟩ | ⟨z, rfl⟩ <;> omega
    · rcases q_of hq hk with ⟨z, rfl⟩ | ⟨z, rfl⟩
      · exact rx_back0 hc hR (by omega) g2 g3 g4 hv q2 hw
      · omega
  · rcases h2 with ⟨q1 | ⟨q, hq, hk, q1⟩, -⟩ | ⟨q, hq, hk, q1, q2⟩
    · omega
    · rcases q_of hq hk with ⟨z, rfl⟩ | ⟨z, rfl⟩ <;> omega
    · rcases q_of hq hk with ⟨z, rfl⟩ | ⟨z, rfl⟩
      · omega
      · exact rx_back1 hc hR (by omega) g2 g3 g4 hv q2 hw
/-- a question asked of both -/
theorem RQ_ask (hc : cN σ) (hR : RQ σ) (hv : vW σm σ) (h1 : ab_okM lm_M σm σ2) (h2 : ly_is σm σ2) (hw : vW σ5 σ2) : RQ σ5 :=
  ⟨RQ9_tr (vw_W hw) (rr_count (cn_N hc) hR.1 (vw_W hv) h1 h2).1, rx_two_ly hc (okM_self [] σ) hv h1 hw (by decide +kernel) (by decide +kernel) h2 hR.2⟩
end
/-! what teaches and takes back -/
def ch_M : ab_ML := [(85, 1), (86, 1000000), (9, 1000000), (10, 1000000)]
def ch_N : ab_ML := [(93, 0), (93, 24), (98, 1000000), (95, 1000000)]
/-- what a change of the ninths leaves: the tapes, the counts, what is kept -/
theorem ch_rest {M1 M2 : ab_ML} {σ σ1 σm σ2 σ5 : ab_SG} (hc : cN σ) (hR : RQ σ) (h1 : ab_okM M1 σ σ1) (hv : vW σm σ1) (h2 : ab_okM M2 σm σ2) (hw : vW σ5 σ2) (o95 : ∀ j : Nat, j < 182 → σ5 95 j = σ 95 j)
    (m1 : (ka_b M1 && kk_b M1 && M1.all (fun q => !(q.1.beq 3)) && mk_b M1 93 22 && ri_b M1 18 && ri_b M1 33) = true) (m2 : (ka_b M2 && kk_b M2 && M2.all (fun q => !(q.1.beq 3)) && mk_b M2 93 22 && ri_b M2 18 && ri_b M2 33) = true) : RQ9 σ5 ∧ ri_is σ5 18 0 ∧ ri_is σ5 33 1 := by
  simp only [Bool.and_eq_true] at m1 m2
  obtain ⟨⟨⟨⟨⟨a1, a2⟩, a3⟩, a4⟩, a5⟩, a6⟩ := m1
  obtain ⟨⟨⟨⟨⟨b1, b2⟩, b3⟩, b4⟩, b5⟩, b6⟩ := m2
  obtain ⟨⟨rA, rB, rK⟩, x1, x2, x3, x4⟩ := hR
  have c2 : M1.all (fun q => !(q.1.beq 102)) = true := kk_row a2 (by decide)
  have d2 : M2.all (fun q => !(q.1.beq 102)) = true := kk_row b2 (by decide)
  refine ⟨⟨ra_tr (vw_W hw) (ra_two (cn_N hc) h1 (vw_W hv) h2 a1 b1 rA), ?_, rk_tr (vw_W hw) (rk_two (cn_N hc) h1 (vw_W hv) h2 a2 b2 rK)⟩, ri_two (by decide) (by decide) hc h1 hv h2 hw a5 b5 x2, ri_two (by decide) (by decide) hc h1 hv h2 hw a6 b6 x3⟩
  exact rb_fr (fun j a b => xt_at hc h1 hv h2 hw (Or.inl (su3 a b)) (off_mk a3 j) (off_mk b3 j)) (fun j a => o95 j (by omega)) (xt_at hc h1 hv h2 hw (Or.inl (su93 (Or.inr rfl))) a4 b4) (fun j a => xt_at hc h1 hv h2 hw (Or.inl (su102 a)) (off_mk c2 j) (off_mk d2 j)) rB
theorem rq_ch {σ σ1 σm σ2 σ5 κ μ : ab_SG} {p : Nat} (hp : p < 5) (hpp : (p : Int) < σ 3 13) (hc : cN σ) (hR : RQ σ) (hok5 : ab_okR nn_T σ5)
    (k1 : kj_is σ κ p) (k2 : ab_okM [(9, 1000000), (10, 1000000)] κ σ1) (k3 : ∀ j : Nat, (j < 9 * p ∨ 9 * p + 9 ≤ j) → σ1 9 j = κ 9 j) (k4 : ∀ j : Nat, j ≠ p → σ1 10 j = κ 10 j) (hv : vW σm σ1)
    (s1 : sn_is (ab_ups σm 93 0 0) μ) (s2 : ab_okM [(95, 1000000)] μ σ2) (s3 : ∀ j : Nat, (j < 182 + 9 * p ∨ 182 + 9 * p + 9 ≤ j) → j ≠ 227 + p → σ2 95 j = μ 95 j) (hw : vW σ5 σ2)
    (E1 : ∀ y : Nat, y < 9 → fw_c (σ1 9 (9 * p + y)) = fw_c (σ2 95 (182 + 9 * p + y))) (E2 : fw_c (σ1 10 p) = fw_c (σ2 95 (227 + p))) : RQ σ5 := by
  have hx := hR.2
  have c9 := rx_9 hx
  have c10 := rx_10 hx
  have hP := rx_p hx
  have N1 : ab_okM ch_M σ σ1 := fw_okM_tr (okM_sub k1.1 (by decide)) k2 (by decide)
  have N2 : ab_okM ch_N σm σ2 := fw_okM_tr (fw_okM_tr (fw_okM_ups (fw_okM_refl _ _) (by decide)) s1.1 (by decide)) s2 (by decide)
  have m95 : ∀ j : Nat, j < 232 → σm 95 j = σ 95 j := fun j hj => xm_at hc N1 hv (Or.inr (swr (by decide) hj)) (off_mk (by decide) j)
  have t95 : ∀ j : Nat, j < 232 → μ 95 j = σ 95 j := fun j hj => by
    rw [mk_row s1.1 (k := 95) (by decide) j, ab_ups_ne (fun z => absurd z.1 (by decide)), m95 j hj]
  have v95 : ∀ j : Nat, j < 232 → σ5 95 j = fw_c (σ2 95 j) := fun j hj => hw.1 95 j (Or.inr (swr (by decide) hj))
  have q95 : ∀ j : Nat, j < 232 → fw_c (σ 95 j) = σ 95 j := fun j hj => hc.1 95 j (Or.inr (swr (by decide) hj))
  have o95 : ∀ j : Nat, j < 232 → (j < 182 + 9 * p ∨ 182 + 9 * p + 9 ≤ j) → j ≠ 227 + p → σ5 95 j = σ 95 j := fun j hj a b => by
    rw [v95 j hj, s3 j a b, t95 j hj, q95 j hj]
  have w9 : ∀ j : Nat, j < 45 → σ5 9 j = fw_c (σ1 9 j) := fun j hj => by
    rw [hw.1 9 j (Or.inr (swr (by decide) hj)), mk_row N2 (k := 9) (by decide), hv.1 9 j (Or.inr (swr (by decide) hj)), fw_c_c]
  have w10 : ∀ j : Nat, j < 5 → σ5 10 j = fw_c (σ1 10 j) := fun j hj => by
    rw [hw.1 10 j (Or.inr (swr (by decide) hj)), mk_row N2 (k := 10) (by decide), hv.1 10 j (Or.inr (swr (by decide) hj)), fw_c_c]
  have q9 : ∀ j : Nat, j < 45 → fw_c (σ 9 j) = σ 9 j := fun j hj => hc.1 9 j (Or.inr (swr (by decide) hj))
  have q10 : ∀ j : Nat, j < 5 → fw_c (σ 10 j) = σ 10 j := fun j hj => hc.1 10 j (Or.inr (swr (by decide) hj))
  have n9 : ∀ j : Nat, j < 45 → σ5 9 j = σ5 95 (182 + j) := fun j hj => by
    by_cases z : 9 * p ≤ j ∧ j < 9 * p + 9
    · obtain ⟨y, rfl⟩ : ∃ y : Nat, j = 9 * p + y := ⟨j - 9 * p, by omega⟩
      rw [w9 _ hj, v95 _ (by omega), show 182 + (9 * p + y) = 182 + 9 * p + y by omega]
      exact E1 y (by omega)
    · rw [w9 _ hj, k3 j (by omega), mk_row k1.1 (k := 9) (by decide) j, o95 (182 + j) (by omega) (by omega) (by omega), ← c9 j hj, q9 j hj]
  have n10 : ∀ j : Nat, (j : Int) < σ 3 13 → σ5 10 j = σ5 95 (227 + j) := fun j hj => by
    have h5 : j < 5 := by omega
    by_cases z : j = p
    · subst z
      rw [w10 _ h5, v95 _ (by omega)]
      exact E2
    · rw [w10 _ h5, k4 j z, mk_row k1.1 (k := 10) (by decide) j, o95 (227 + j) (by omega) (by omega) (by omega), ← c10 j hj, q10 j h5]
  have l10 : ∀ j : Nat, σ 3 13 ≤ (j : Int) → j < 5 → σ5 10 j = σ 10 j := fun j hj h5 => by
    rw [w10 _ h5, k4 j (by omega), mk_row k1.1 (k := 10) (by decide) j, q10 j h5]
  obtain ⟨z9, z18, z33⟩ := ch_rest hc hR N1 hv N2 hw (fun j hj => o95 j (by omega) (by omega) (by omega)) (by decide +kernel) (by decide +kernel)
  have e3 : ∀ j : Nat, 11 ≤ j → j ≤ 14 → σ5 3 j = σ 3 j := fun j a b => xt_at hc N1 hv N2 hw (Or.inl (su3 a b)) (off_mk (by decide) j) (off_mk (by decide) j)
  refine ⟨z9, rc_ch hok5 e3 (fun q hq a b j hj => ?_) (fun j hj => o95 j (by omega) (by omega) (by omega)) (xt_at hc N1 hv N2 hw (Or.inl (su93 (Or.inr rfl))) (by decide) (by decide)) (fun j hj => xt_l hc N1 hv N2 hw (slr (by decide) hj) (off_mk (by decide) j) (off_mk (by decide) j)) n9 n10 l10 hx.1, z18, z33, ?_⟩
  · have o1 : ∀ q ∈ cp_n, q.1 ≠ 6 → q.1 ≠ 7 → ch_M.all (fun z => !(z.1.beq (3 + q.1))) = true ∧ ch_N.all (fun z => !(z.1.beq (3 + q.1))) = true := by decide +kernel
    have o2 := o1 q hq a b
    rcases cp_sw q hq 3 (by decide) with z | z
    · exact xt_at hc N1 hv N2 hw (Or.inr (swr z hj)) (off_mk o2.1 j) (off_mk o2.2 j)
    · exact xt_l hc N1 hv N2 hw (slr z hj) (off_mk o2.1 j) (off_mk o2.2 j)
  · -- the journal
    obtain ⟨n, hn, j85, j24, hj⟩ := hx.2.2.2
    have v86 : ∀ j : Nat, j < 88 → σ5 86 j = fw_c (κ 86 j) := fun j hj => by
      rw [hw.1 86 j (Or.inr (swr (by decide) hj)), mk_row N2 (k := 86) (by decide), hv.1 86 j (Or.inr (swr (by decide) hj)), fw_c_c, mk_row k2 (k := 86) (by decide)]
    have v98 : ∀ j : Nat, j < 400 → σ5 98 j = fw_c (μ 98 j) := fun j hj => by
      rw [hw.1 98 j (Or.inr (swr (by decide) hj)), mk_row s2 (k := 98) (by decide)]
    have v85 : σ5 85 1 = fw_c (κ 85 1) := by
      rw [hw.1 85 1 (Or.inr sw85), mk_at N2 (by decide), hv.1 85 1 (Or.inr sw85), fw_c_c, mk_at k2 (by decide)]
    have v24 : σ5 93 24 = fw_c (μ 93 24) := by
      rw [hw.1 93 24 (Or.inr sw93), mk_at s2 (by decide)]
    have q86 : ∀ j : Nat, j < 88 → fw_c (σ 86 j) = σ 86 j := fun j hj => hc.1 86 j (Or.inr (swr (by decide) hj))
    have q98 : ∀ j : Nat, j < 400 → fw_c (σ 98 j) = σ 98 j := fun j hj => hc.1 98 j (Or.inr (swr (by decide) hj))
    have m98 : ∀ j : Nat, j < 400 → ab_ups σm 93 0 0 98 j = σ 98 j := fun j hj => by
      rw [ab_ups_ne (fun z => absurd z.1 (by decide))]
      exact xm_at hc N1 hv (Or.inr (swr (by decide) hj)) (off_mk (by decide) j)
    have m24 : ab_ups σm 93 0 0 93 24 = (n : Int) := by
      rw [ab_ups_ne (fun z => absurd z.2 (by decide)), xm_at hc N1 hv (Or.inr sw93) (by decide), j24]
    have u95 : ∀ j : Nat, j < 232 → ab_ups σm 93 0 0 95 j = σ 95 j := fun j hj => by
      rw [ab_ups_ne (fun z => absurd z.1 (by decide)), m95 j hj]
    have e13 : σ5 3 13 = σ 3 13 := e3 13 (by decide) (by decide)
    have last : ∀ m : Nat, m < 8 → kj_row σ κ m p → (∀ j : Nat, j < 50 → μ 98 (50 * m + j) = fw_c (ab_ups σm 93 0 0 95 (182 + j))) → (∀ j : Nat, j < 50 → σ5 98 (50 * m + j) = σ 95 (182 + j)) ∧ jt_is (σ5 3 13) (fun i => σ5 86 (11 * m + i)) (fun j => σ5 98 (50 * m + j)) (jS σ5 (m + 1) (m + 1)) := by
      intro m hm kr sr
      have a98 : ∀ j : Nat, j < 50 → σ5 98 (50 * m + j) = σ 95 (182 + j) := fun j hj => by
        rw [v98 _ (by omega), sr j hj, fw_c_c, u95 _ (by omega), q95 _ (by omega)]
      refine ⟨a98, p, hp, by rw [e13]; exact hpp, ?_, fun x hx => ?_, ?_, fun j hj b1 b2 => ?_⟩
      · show σ5 86 (11 * m + 10) = (p : Int)
        rw [v86 _ (by omega), kr.2.2]
        exact fw_c_id (by omega) (by omega)
      · show σ5 86 (11 * m + x) = σ5 98 (50 * m + (9 * p + x))
        rw [v86 _ (by omega), kr.1 x hx, fw_c_c, q9 _ (by omega), a98 _ (by omega)]
        exact c9 _ (by omega)
      · show σ5 86 (11 * m + 9) = σ5 98 (50 * m + (45 + p))
        rw [v86 _ (by omega), kr.2.1, fw_c_c, q10 p hp, a98 _ (by omega), c10 p hpp, show 182 + (45 + p) = 227 + p by omega]
      · show σ5 98 (50 * m + j) = jS σ5 (m + 1) (m + 1) j
        unfold jS
        rw [if_pos rfl, a98 j hj]
        exact (o95 (182 + j) (by omega) (by omega) (by omega)).symm
    by_cases h8 : n < 8
    · obtain ⟨r1, r2, r3⟩ := k1.2.1 n j85 h8
      obtain ⟨y1, y2, y3⟩ := s1.2.1 n m24 h8
      obtain ⟨a98, lt⟩ := last n h8 r3 y3
      refine ⟨n + 1, by omega, ?_, ?_, fun t ht => ?_⟩
      · rw [v85, r1]
        exact (fw_c_id (by omega) (by omega)).trans (by omega)
      · rw [v24, y1]
        exact (fw_c_id (by omega) (by omega)).trans (by omega)
      · by_cases htn : t = n
        · subst htn
          exact lt
        · have b98 : ∀ j : Nat, j < 50 * n → σ5 98 j = σ 98 j := fun j hj => by
            rw [v98 _ (by omega), y2 j hj, m98 _ (by omega), q98 _ (by omega)]
          refine jt_cg e13 (fun i hi => ?_) (fun j hj2 => b98 _ (by omega)) (fun j hj2 => ?_) (hj t (by omega))
          · show σ5 86 (11 * t + i) = σ 86 (11 * t + i)
            rw [v86 _ (by omega), r2 _ (by omega), q86 _ (by omega)]
          · show jS σ5 (n + 1) (t + 1) j = jS σ n (t + 1) j
            unfold jS
            rw [if_neg (by omega)]
            by_cases h9 : t + 1 = n
            · rw [if_pos h9, h9]
              exact a98 j hj2
            · rw [if_neg h9]
              exact b98 _ (by omega)
    · have hn8 : n = 8 := by omega
      subst hn8
      obtain ⟨r1, r2, r3⟩ := k1.2.2 j85
      obtain ⟨y1, y2, y3⟩ := s1.2.2 m24
      obtain ⟨a98, lt⟩ := last 7 (by decide) r3 y3
      refine ⟨8, Nat.le_refl 8, ?_, ?_, fun t ht => ?_⟩
      · rw [v85, r1]
        exact fw_c_id (by decide) (by decide)
      · rw [v24, y1]
        exact fw_c_id (by decide) (by decide)
      · by_cases htn : t = 7
        · subst htn
          exact lt
        · have b98 : ∀ j : Nat, j < 350 → σ5 98 j = σ 98 (j + 50) := fun j hj => by
            rw [v98 _ (by omega), y2 j hj, fw_c_c, m98 _ (by omega), q98 _ (by omega)]
          refine jt_cg e13 (fun i hi => ?_) (fun j hj2 => ?_) (fun j hj2 => ?_) (hj (t + 1) (by omega))
          · show σ5 86 (11 * t + i) = σ 86 (11 * (t + 1) + i)
            rw [v86 _ (by omega), r2 _ (by omega), fw_c_c, show 11 * t + i + 11 = 11 * (t + 1) + i by omega, q86 _ (by omega)]
          · show σ5 98 (50 * t + j) = σ 98 (50 * (t + 1) + j)
            rw [b98 _ (by omega), show 50 * t + j + 50 = 50 * (t + 1) + j by omega]
          · show jS σ5 8 (t + 1) j = jS σ 8 (t + 1 + 1) j
            unfold jS
            rw [if_neg (by omega)]
            by_cases h9 : t + 1 = 7
            · rw [if_pos (by omega), h9]
              exact a98 j hj2
            · rw [if_neg (by omega), b98 _ (by omega), show 50 * (t + 1) + j + 50 = 50 * (t + 1 + 1) + j by omega]
/-! taught, dared, copied, taken back -/
theorem rx_cf {σ : ab_SG} (h : rx σ) : c_fw σ := by
  have hP := rx_p h
  obtain ⟨-, -, -, n, hn, j85, -⟩ := h
  exact ⟨hP.1, hP.2, by omega, by omega⟩
/-- what no change of the class's touches -/
theorem rx_mf {M1 : ab_ML} {σ σ1 σm : ab_SG} (hc : cN σ) (hR : RQ σ) (h1 : ab_okM M1 σ σ1) (hv : vW σm σ1) (m1 : (M1.all (fun q => !(q.1.beq 95)) && mk_b M1 93 24) = true) : m_fw σm ∧ (∀ j : Nat, j < 232 → σm 95 j = σ 95 j) ∧ (∀ p : Int, m_pe σm p = c_pe σ p) ∧ ∀ x : Int, m_tu σm x = c_tu σ x := by
  rw [Bool.and_eq_true] at m1
  have m95 : ∀ j : Nat, j < 232 → σm 95 j = σ 95 j := fun j hj => xm_at hc h1 hv (Or.inr (swr (by decide) hj)) (off_mk m1.1 j)
  have m24 : σm 93 24 = σ 93 24 := xm_at hc h1 hv (Or.inr sw93) m1.2
  have hP := rx_p hR.2
  obtain ⟨⟨-, ⟨b1, -, b3, -⟩, -⟩, -, -, -, n, hn, -, j24, -⟩ := hR
  have f0 : σm 95 0 = σ 3 11 := (m95 0 (by decide)).trans b1.symm
  have f2 : σm 95 2 = σ 3 13 := (m95 2 (by decide)).trans b3.symm
  refine ⟨⟨by rw [f0]; exact hP.1, by rw [f2]; exact hP.2, by omega, by omega⟩, m95, fun p => ?_, fun x => ?_⟩
  · unfold m_pe c_pe
    rw [f2]
  · unfold m_tu c_tu
    rw [f0]
theorem pe_b {σ : ab_SG} {p : Int} {p' : Nat} (h : rx σ) (hp : fw_c p = p) (e : p = (p' : Int)) (hb : c_pe σ p = true) : (p' : Int) < σ 3 13 ∧ p' < 5 := by
  have hP := rx_p h
  have t := c_pe_t hb
  rw [hp, fw_c_id (x := σ 3 13) (by omega) (by omega)] at t
  exact ⟨by omega, by omega⟩
theorem tu_b {σ : ab_SG} {x : Int} {x' : Nat} (h : rx σ) (hx : fw_c x = x) (e : x = (x' : Int)) (hb : c_tu σ x = true) : (x' : Int) < σ 3 11 ∧ x' < 9 := by
  have hP := rx_p h
  have t := c_tu_t hb
  rw [hx, fw_c_id (x := σ 3 11) (by omega) (by omega)] at t
  exact ⟨by omega, by omega⟩
def k_teach (p x k v : Int) (σ σ' : ab_SG) : Prop := (v = 0 ∧ σ' = σ ∧ ∀ p' x' : Nat, p = (p' : Int) → x = (x' : Int) → c_pe σ p = true → c_tu σ x = true → (0 ≤ k ∧ k ≤ 9) → fw_c (σ 9 (9 * p' + x')) = k) ∨
  (v = 1 ∧ ∃ p' x' : Nat, p = (p' : Int) ∧ x = (x' : Int) ∧ c_pe σ p = true ∧ c_tu σ x = true ∧ (0 ≤ k ∧ k ≤ 9) ∧ fw_c (σ 9 (9 * p' + x')) ≠ k ∧ ce_is σ σ' p' 9 (9 * p' + x') k)
def km_teach (p x k v : Int) (σ σ' : ab_SG) : Prop := (v = 0 ∧ σ' = ab_ups σ 93 0 0 ∧ ∀ p' x' : Nat, p = (p' : Int) → x = (x' : Int) → m_pe σ p = true → m_tu σ x = true → (0 ≤ k ∧ k ≤ 9) → fw_c (σ 95 (182 + 9 * p' + x')) = k) ∨
  (v = 1 ∧ ∃ p' x' : Nat, p = (p' : Int) ∧ x = (x' : Int) ∧ m_pe σ p = true ∧ m_tu σ x = true ∧ (0 ≤ k ∧ k ≤ 9) ∧ fw_c (σ 95 (182 + 9 * p' + x')) ≠ k ∧ te_is σ σ' (182 + 9 * p' + x') k)
theorem sk_teach {σ : ab_SG} {p x k : Int} (hp : fw_c p = p) (hx : fw_c x = x) (hk : fw_c k = k) (hf : c_fw σ) : sp_teach [(2, 0, 0), (0, 0, p), (0, 0, x), (0, 0, k)] σ (fun rv σ' => ∃ v : Int, rv = some (0, 0, v) ∧ k_teach p x k v σ σ') :=
  ⟨p, x, k, rfl, ⟨hp, hx, hk⟩, hf, fun hn => ⟨0, rfl, Or.inl ⟨rfl, rfl, fun _ _ _ _ a b c => absurd ⟨a, b, c⟩ hn⟩⟩, fun p' x' e1 e2 a b c => ⟨fun z => ⟨0, rfl, Or.inl ⟨rfl, rfl, fun p2 x2 f1 f2 _ _ _ => by
    have g1 : p2 = p' := by omega
    have g2 : x2 = x' := by omega
    rw [g1, g2]
    exact z⟩⟩, fun z σ' hs => ⟨1, rfl, Or.inr ⟨rfl, p', x', e1, e2, a, b, c, z, hs⟩⟩⟩⟩
theorem sm_teach {σ : ab_SG} {p x k : Int} (hp : fw_c p = p) (hx : fw_c x = x) (hk : fw_c k = k) (hf : m_fw σ) : sp_m_teach [(2, 93, 0), (0, 0, p), (0, 0, x), (0, 0, k)] σ (fun rv σ' => ∃ v : Int, rv = some (0, 0, v) ∧ km_teach p x k v σ σ') :=
  ⟨p, x, k, rfl, ⟨hp, hx, hk⟩, hf, fun hn => ⟨0, rfl, Or.inl ⟨rfl, rfl, fun _ _ _ _ a b c => absurd ⟨a, b, c⟩ hn⟩⟩, fun p' x' e1 e2 a b c => ⟨fun z => ⟨0, rfl, Or.inl ⟨rfl, rfl, fun p2 x2 f1 f2 _ _ _ => by
    have g1 : p2 = p' := by omega
    have g2 : x2 = x' := by omega
    rw [g1, g2]
    exact z⟩⟩, fun z σ' hs => ⟨1, rfl, Or.inr ⟨rfl, p', x', e1, e2, a, b, c, z, hs⟩⟩⟩⟩
def k_dares (p k v : Int) (σ σ' : ab_SG) : Prop := (v = 0 ∧ σ' = σ ∧ ∀ p' : Nat, p = (p' : Int) → c_pe σ p = true → (0 ≤ k ∧ k ≤ 9) → fw_c (σ 10 p') = k) ∨
  (v = 1 ∧ ∃ p' : Nat, p = (p' : Int) ∧ c_pe σ p = true ∧ (0 ≤ k ∧ k ≤ 9) ∧ fw_c (σ 10 p') ≠ k ∧ ce_is σ σ' p' 10 p' k)
def km_dares (p k v : Int) (σ σ' : ab_SG) : Prop := (v = 0 ∧ σ' = ab_ups σ 93 0 0 ∧ ∀ p' : Nat, p = (p' : Int) → m_pe σ p = true → (0 ≤ k ∧ k ≤ 9) → fw_c (σ 95 (227 + p')) = k) ∨
  (v = 1 ∧ ∃ p' : Nat, p = (p' : Int) ∧ m_pe σ p = true ∧ (0 ≤ k ∧ k ≤ 9) ∧ fw_c (σ 95 (227 + p')) ≠ k ∧ te_is σ σ' (227 + p') k)
theorem sk_dares {σ : ab_SG} {p k : Int} (hp : fw_c p = p) (hk : fw_c k = k) (hf : c_fw σ) : sp_dares [(2, 0, 0), (0, 0, p), (0, 0, k)] σ (fun rv σ' => ∃ v : Int, rv = some (0, 0, v) ∧ k_dares p k v σ σ') :=
  ⟨p, k, rfl, ⟨hp, hk⟩, hf, fun hn => ⟨0, rfl, Or.inl ⟨rfl, rfl, fun _ _ a c => absurd ⟨a, c⟩ hn⟩⟩, fun p' e1 a c => ⟨fun z => ⟨0, rfl, Or.inl ⟨rfl, rfl, fun p2 f1 _ _ => by
    have g1 : p2 = p' := by omega
    rw [g1]
    exact z⟩⟩, fun z σ' hs => ⟨1, rfl, Or.inr ⟨rfl, p', e1, a, c, z, hs⟩⟩⟩⟩
theorem sm_dares {σ : ab_SG} {p k : Int} (hp : fw_c p = p) (hk : fw_c k = k) (hf : m_fw σ) : sp_m_dares [(2, 93, 0), (0, 0, p), (0, 0, k)] σ (fun rv σ' => ∃ v : Int, rv = some (0, 0, v) ∧ km_dares p k v σ σ') :=
  ⟨p, k, rfl, ⟨hp, hk⟩, hf, fun hn => ⟨0, rfl, Or.inl ⟨rfl, rfl, fun _ _ a c => absurd ⟨a, c⟩ hn⟩⟩, fun p' e1 a c => ⟨fun z => ⟨0, rfl, Or.inl ⟨rfl, rfl, fun p2 f1 _ _ => by
    have g1 : p2 = p' := by omega
    rw [g1]
    exact z⟩⟩, fun z σ' hs => ⟨1, rfl, Or.inr ⟨rfl, p', e1, a, c, z, hs⟩⟩⟩⟩
def k_copies (p q v : Int) (σ σ' : ab_SG) : Prop := (v = -1 ∧ σ' = σ ∧ ¬ (c_pe σ p = true ∧ c_pe σ q = true)) ∨
  (∃ p' q' N : Nat, p = (p' : Int) ∧ q = (q' : Int) ∧ c_pe σ p = true ∧ c_pe σ q = true ∧ σ 3 11 = (N : Int) ∧ v = cd_n (σ 9) (9 * p') (9 * q') N ∧ ((v = 0 ∧ σ' = σ) ∨ (v ≠ 0 ∧ qc_is σ σ' p' q' N)))
def km_copies (p q v : Int) (σ σ' : ab_SG) : Prop := (v = -1 ∧ σ' = ab_ups σ 93 0 0 ∧ ¬ (m_pe σ p = true ∧ m_pe σ q = true)) ∨
  (∃ p' q' N : Nat, p = (p' : Int) ∧ q = (q' : Int) ∧ m_pe σ p = true ∧ m_pe σ q = true ∧ σ 95 0 = (N : Int) ∧ v = cd_n (σ 95) (182 + 9 * p') (182 + 9 * q') N ∧ ((v = 0 ∧ σ' = ab_ups σ 93 0 0) ∨ (v ≠ 0 ∧ qm_is σ σ' p' q' N)))
theorem sk_copies {σ : ab_SG} {p q : Int} (hp : fw_c p = p) (hq : fw_c q = q) (hf : c_fw σ) : sp_copies [(2, 0, 0), (0, 0, p), (0, 0, q)] σ (fun rv σ' => ∃ v : Int, rv = some (0, 0, v) ∧ k_copies p q v σ σ') :=
  ⟨p, q, rfl, ⟨hp, hq⟩, hf, fun hn => ⟨-1, rfl, Or.inl ⟨rfl, rfl, hn⟩⟩, fun p' q' N e1 e2 a b c => ⟨fun z => ⟨0, rfl, Or.inr ⟨p', q', N, e1, e2, a, b, c, z.symm, Or.inl ⟨rfl, rfl⟩⟩⟩, fun z σ' hs => ⟨_, rfl, Or.inr ⟨p', q', N, e1, e2, a, b, c, rfl, Or.inr ⟨z, hs⟩⟩⟩⟩⟩
theorem sm_copies {σ : ab_SG} {p q : Int} (hp : fw_c p = p) (hq : fw_c q = q) (hf : m_fw σ) : sp_m_copies [(2, 93, 0), (0, 0, p), (0, 0, q)] σ (fun rv σ' => ∃ v : Int, rv = some (0, 0, v) ∧ km_copies p q v σ σ') :=
  ⟨p, q, rfl, ⟨hp, hq⟩, hf, fun hn => ⟨-1, rfl, Or.inl ⟨rfl, rfl, hn⟩⟩, fun p' q' N e1 e2 a b c => ⟨fun z => ⟨0, rfl, Or.inr ⟨p', q', N, e1, e2, a, b, c, z.symm, Or.inl ⟨rfl, rfl⟩⟩⟩, fun z σ' hs => ⟨_, rfl, Or.inr ⟨p', q', N, e1, e2, a, b, c, rfl, Or.inr ⟨z, hs⟩⟩⟩⟩⟩
def k_undo (v : Int) (σ σ' : ab_SG) : Prop := (σ 85 1 = 0 ∧ v = -1 ∧ σ' = σ) ∨ (∃ n p : Nat, σ 85 1 = (n : Int) + 1 ∧ v = (n : Int) ∧ p < 5 ∧ σ 86 (11 * n + 10) = (p : Int) ∧ tk_is σ σ' n p)
def km_undo (v : Int) (σ σ' : ab_SG) : Prop := (σ 93 24 = 0 ∧ v = -1 ∧ σ' = ab_ups σ 93 0 0) ∨ (∃ n : Nat, σ 93 24 = (n : Int) + 1 ∧ v = (n : Int) ∧ ab_okM un_M σ σ' ∧ σ' 93 24 = (n : Int) ∧ (∀ j : Nat, (j < 182 ∨ 232 ≤ j) → σ' 95 j = σ 95 j) ∧ (∀ j : Nat, j < 50 → σ' 95 (182 + j) = fw_c (σ 98 (50 * n + j))))
theorem sk_undo {σ : ab_SG} (h : rx σ) : sp_undo [(2, 0, 0)] σ (fun rv σ' => ∃ v : Int, rv = some (0, 0, v) ∧ k_undo v σ σ') := by
  obtain ⟨-, -, -, n, hn, j85, -, hj⟩ := h
  refine ⟨rfl, ⟨by omega, by omega⟩, fun z => ⟨-1, rfl, Or.inl ⟨z, rfl, rfl⟩⟩, fun z => ?_⟩
  obtain ⟨m, rfl⟩ : ∃ m : Nat, n = m + 1 := ⟨n - 1, by omega⟩
  obtain ⟨p, hp, -, a, -⟩ := hj m (by omega)
  have e : σ 85 1 = (m : Int) + 1 := by omega
  exact ⟨m, p, e, hp, a, fun σ' hs => ⟨_, rfl, Or.inr ⟨m, p, e, rfl, hp, a, hs⟩⟩⟩
theorem sm_undo {σ : ab_SG} (h : 0 ≤ σ 93 24 ∧ σ 93 24 ≤ 8) : sp_m_undo [(2, 93, 0)] σ (fun rv σ' => ∃ v : Int, rv = some (0, 0, v) ∧ km_undo v σ σ') :=
  ⟨rfl, h, fun z => ⟨-1, rfl, Or.inl ⟨z, rfl, rfl⟩⟩, fun n e σ' a b c d => ⟨_, rfl, Or.inr ⟨n, e, rfl, a, b, c, d⟩⟩⟩
section
variable {σ σ1 σm σ2 σ5 : ab_SG}
theorem RQ_same (hc : cN σ) (hR : RQ σ) (h1 : σ1 = σ) (hv : vW σm σ1) (h2 : σ2 = ab_ups σm 93 0 0) (hw : vW σ5 σ2) : RQ σ5 := by
  have s1 : ab_okM [] σ σ1 := okM_of h1
  have s2 : ab_okM [(93, 0)] σm σ2 := by
    rw [h2]
    exact okM_one
  exact ⟨RQ9_tr (vw_W hw) ⟨ra_two (cn_N hc) s1 (vw_W hv) s2 (by decide) (by decide) hR.1.1, rb_two (cn_N hc) s1 (vw_W hv) s2 (by decide) (by decide) hR.1.2.1, rk_two (cn_N hc) s1 (vw_W hv) s2 (by decide) (by decide) hR.1.2.2⟩, rx_two hc s1 hv s2 hw (by decide +kernel) (by decide +kernel) hR.2⟩
theorem RQ_teach {p x k v1 v2 : Int} (hp : fw_c p = p) (hx : fw_c x = x) (hc : cN σ) (hR : RQ σ) (hok5 : ab_okR nn_T σ5) (h1 : k_teach p x k v1 σ σ1) (hv : vW σm σ1) (h2 : km_teach p x k v2 σm σ2) (hw : vW σ5 σ2) : RQ σ5 ∧ v2 = v1 := by
  have c9 := rx_9 hR.2
  have c10 := rx_10 hR.2
  rcases h1 with ⟨a0, a1, a2⟩ | ⟨a0, p', x', e1, e2, f1, f2, f3, f4, κ, k1, k2⟩
  · obtain ⟨-, m95, mp, mx⟩ := rx_mf hc hR (okM_of (M := []) a1) hv rfl
    rcases h2 with ⟨b0, b1, -⟩ | ⟨b0, p', x', e1, e2, f1, f2, f3, f4, -⟩
    · exact ⟨RQ_same hc hR a1 hv b1 hw, b0.trans a0.symm⟩
    · rw [mp] at f1
      rw [mx] at f2
      obtain ⟨bp1, bp2⟩ := pe_b hR.2 hp e1 f1
      obtain ⟨bx1, bx2⟩ := tu_b hR.2 hx e2 f2
      refine absurd (a2 p' x' e1 e2 f1 f2 f3) (fun z => f4 ?_)
      rw [m95 _ (by omega), show 182 + 9 * p' + x' = 182 + (9 * p' + x') by omega, ← c9 _ (by omega)]
      exact z
  · obtain ⟨bp1, bp2⟩ := pe_b hR.2 hp e1 f1
    obtain ⟨bx1, bx2⟩ := tu_b hR.2 hx e2 f2
    have N1 : ab_okM ch_M σ σ1 := by
      rw [k2]
      exact fw_okM_upa (okM_sub k1.1 (by decide)) (by decide)
    obtain ⟨-, m95, mp, mx⟩ := rx_mf hc hR N1 hv (by decide)
    rcases h2 with ⟨b0, b1, b2⟩ | ⟨b0, p2, x2, g1, g2, g3, g4, g5, g6, μ, s1, s2⟩
    · refine absurd (b2 p' x' e1 e2 ((mp p).trans f1) ((mx x).trans f2) f3) (fun z => f4 ?_)
      rw [c9 _ (by omega), show 182 + (9 * p' + x') = 182 + 9 * p' + x' by omega, ← m95 _ (by omega)]
      exact z
    · have i1 : p2 = p' := by omega
      have i2 : x2 = x' := by omega
      rw [i1, i2] at s2
      have t95 : ∀ j : Nat, j < 232 → μ 95 j = σ 95 j := fun j hj => by
        rw [mk_row s1.1 (k := 95) (by decide) j, ab_ups_ne (fun z => absurd z.1 (by decide)), m95 j hj]
      refine ⟨rq_ch bp2 bp1 hc hR hok5 k1 ?_ ?_ ?_ hv s1 ?_ ?_ hw ?_ ?_, b0.trans a0.symm⟩
      · rw [k2]
        exact fw_okM_upa (fw_okM_refl _ _) (by decide)
      · intro j hj
        rw [k2, ab_ups_ne (fun z => by omega)]
      · intro j _
        rw [k2, ab_ups_ne (fun z => absurd z.1 (by decide))]
      · rw [s2]
        exact fw_okM_upa (fw_okM_refl _ _) (by decide)
      · intro j hj _
        rw [s2, ab_ups_ne (fun z => by omega)]
      · intro y hy
        rw [k2, s2]
        by_cases c : y = x'
        · rw [c, ab_ups_eq, ab_ups_eq]
        · rw [ab_ups_ne (fun z => by omega), ab_ups_ne (fun z => by omega), mk_row k1.1 (k := 9) (by decide), t95 _ (by omega), c9 _ (by omega), show 182 + (9 * p' + y) = 182 + 9 * p' + y by omega]
      · rw [k2, s2, ab_ups_ne (fun z => absurd z.1 (by decide)), ab_ups_ne (fun z => by omega), mk_row k1.1 (k := 10) (by decide), t95 _ (by omega), c10 p' bp1]
theorem RQ_dares {p k v1 v2 : Int} (hp : fw_c p = p) (hc : cN σ) (hR : RQ σ) (hok5 : ab_okR nn_T σ5) (h1 : k_dares p k v1 σ σ1) (hv : vW σm σ1) (h2 : km_dares p k v2 σm σ2) (hw : vW σ5 σ2) : RQ σ5 ∧ v2 = v1 := by
  have c9 := rx_9 hR.2
  have c10 := rx_10 hR.2
  rcases h1 with ⟨a0, a1, a2⟩ | ⟨a0, p', e1, f1, f3, f4, κ, k1, k2⟩
  · obtain ⟨-, m95, mp, mx⟩ := rx_mf hc hR (okM_of (M := []) a1) hv rfl
    rcases h2 with ⟨b0, b1, -⟩ | ⟨b0, p', e1, f1, f3, f4, -⟩
    · exact ⟨RQ_same hc hR a1 hv b1 hw, b0.trans a0.symm⟩
    · rw [mp] at f1
      obtain ⟨bp1, bp2⟩ := pe_b hR.2 hp e1 f1
      refine absurd (a2 p' e1 f1 f3) (fun z => f4 ?_)
      rw [m95 _ (by omega), ← c10 p' bp1]
      exact z
  · obtain ⟨bp1, bp2⟩ := pe_b hR.2 hp e1 f1
    have N1 : ab_okM ch_M σ σ1 := by
      rw [k2]
      exact fw_okM_upa (okM_sub k1.1 (by decide)) (by decide)
    obtain ⟨-, m95, mp, mx⟩ := rx_mf hc hR N1 hv (by decide)
    rcases h2 with ⟨b0, b1, b2⟩ | ⟨b0, p2, g1, g3, g5, g6, μ, s1, s2⟩
    · refine absurd (b2 p' e1 ((mp p).trans f1) f3) (fun z => f4 ?_)
      rw [c10 p' bp1, ← m95 _ (by omega)]
      exact z
    · have i1 : p2 = p' := by omega
      rw [i1] at s2
      have t95 : ∀ j : Nat, j < 232 → μ 95 j = σ 95 j := fun j hj => by
        rw [mk_row s1.1 (k := 95) (by decide) j, ab_ups_ne (fun z => absurd z.1 (by decide)), m95 j hj]
      refine ⟨rq_ch bp2 bp1 hc hR hok5 k1 ?_ ?_ ?_ hv s1 ?_ ?_ hw ?_ ?_, b0.trans a0.symm⟩
      · rw [k2]
        exact fw_okM_upa (fw_okM_refl _ _) (by decide)
      · intro j _
        rw [k2, ab_ups_ne (fun z => absurd z.1 (by decide))]
      · intro j hj
        rw [k2, ab_ups_ne (fun z => hj z.2)]
      · rw [s2]
        exact fw_okM_upa (fw_okM_refl _ _) (by decide)
      · intro j _ hj
        rw [s2, ab_ups_ne (fun z => hj z.2)]
      · intro y hy
        rw [k2, s2, ab_ups_ne (fun z => absurd z.1 (by decide)), ab_ups_ne (fun z => by omega), mk_row k1.1 (k := 9) (by decide), t95 _ (by omega), c9 _ (by omega), show 182 + (9 * p' + y) = 182 + 9 * p' + y by omega]
      · rw [k2, s2, ab_ups_eq, ab_ups_eq]
theorem RQ_copies {p q v1 v2 : Int} (hp : fw_c p = p) (hq : fw_c q = q) (hc : cN σ) (hR : RQ σ) (hok5 : ab_okR nn_T σ5) (h1 : k_copies p q v1 σ σ1) (hv : vW σm σ1) (h2 : km_copies p q v2 σm σ2) (hw : vW σ5 σ2) : RQ σ5 ∧ v2 = v1 := by
  have c9 := rx_9 hR.2
  have c10 := rx_10 hR.2
  have hP := rx_p hR.2
  have b0e : σ 3 11 = σ 95 0 := hR.1.2.1.1
  rcases h1 with ⟨a0, a1, a2⟩ | ⟨p', q', N, e1, e2, f1, f2, hN, hV, hD⟩
  · obtain ⟨-, m95, mp, mx⟩ := rx_mf hc hR (okM_of (M := []) a1) hv rfl
    rcases h2 with ⟨b0, b1, -⟩ | ⟨p', q', N, e1, e2, f1, f2, -⟩
    · exact ⟨RQ_same hc hR a1 hv b1 hw, b0.trans a0.symm⟩
    · rw [mp] at f1 f2
      exact absurd ⟨f1, f2⟩ a2
  · obtain ⟨bp1, bp2⟩ := pe_b hR.2 hp e1 f1
    obtain ⟨bq1, bq2⟩ := pe_b hR.2 hq e2 f2
    have N1 : ab_okM ch_M σ σ1 := by
      rcases hD with ⟨-, h⟩ | ⟨-, κ, k1, k2⟩
      · exact okM_of h
      · exact fw_okM_tr (okM_sub k1.1 (by decide)) k2.1 (by decide)
    obtain ⟨-, m95, mp, mx⟩ := rx_mf hc hR N1 hv (by decide)
    rcases h2 with ⟨-, -, b2⟩ | ⟨p2, q2, N2, g1, g2, -, -, hN2, hV2, hD2⟩
    · exact absurd ⟨(mp p).trans f1, (mp q).trans f2⟩ b2
    · have i1 : p2 = p' := by omega
      have i2 : q2 = q' := by omega
      have i3 : N2 = N := by
        rw [m95 0 (by decide)] at hN2
        omega
      rw [i1, i2, i3] at hV2 hD2
      have eV : v2 = v1 := by
        rw [hV, hV2]
        exact cd_cg N (fun i hi => ⟨by rw [m95 _ (by omega), c9 _ (by omega), show 182 + (9 * p' + i) = 182 + 9 * p' + i by omega], by rw [m95 _ (by omega), c9 _ (by omega), show 182 + (9 * q' + i) = 182 + 9 * q' + i by omega]⟩)
      refine ⟨?_, eV⟩
      rcases hD with ⟨d0, d1⟩ | ⟨d0, κ, k1, k2, k3, k4⟩
      · rcases hD2 with ⟨-, d3⟩ | ⟨d2, -⟩
        · exact RQ_same hc hR d1 hv d3 hw
        · exact absurd (eV.trans d0) d2
      · rcases hD2 with ⟨d2, -⟩ | ⟨-, μ, s1, s2, s3, s4⟩
        · exact absurd (eV.symm.trans d2) d0
        · have t95 : ∀ j : Nat, j < 232 → μ 95 j = σ 95 j := fun j hj => by
            rw [mk_row s1.1 (k := 95) (by decide) j, ab_ups_ne (fun z => absurd z.1 (by decide)), m95 j hj]
          refine rq_ch bp2 bp1 hc hR hok5 k1 (okM_sub k2 (by decide)) (fun j hj => k3 j (by omega)) (fun j _ => mk_row k2 (k := 10) (by decide) j) hv s1 s2 (fun j hj _ => s3 j (by omega)) hw (fun y hy => ?_) ?_
          · by_cases c : y < N
            · rw [k4 y c, s4 y c, mk_row k1.1 (k := 9) (by decide), t95 _ (by omega), c9 _ (by omega), show 182 + (9 * q' + y) = 182 + 9 * q' + y by omega]
            · rw [k3 _ (by omega), s3 _ (by omega), mk_row k1.1 (k := 9) (by decide), t95 _ (by omega), c9 _ (by omega), show 182 + (9 * p' + y) = 182 + 9 * p' + y by omega]
          · rw [mk_row k2 (k := 10) (by decide), mk_row k1.1 (k := 10) (by decide), s3 _ (by omega), t95 _ (by omega), c10 p' bp1]
theorem RQ_undo {v1 v2 : Int} (hc : cN σ) (hR : RQ σ) (hok5 : ab_okR nn_T σ5) (h1 : k_undo v1 σ σ1) (hv : vW σm σ1) (h2 : km_undo v2 σm σ2) (hw : vW σ5 σ2) : RQ σ5 ∧ v2 = v1 := by
  have hx := hR.2
  have c9 := rx_9 hx
  have c10 := rx_10 hx
  have hP := rx_p hx
  obtain ⟨n0, hn0, j85, j24, hj⟩ := hx.2.2.2
  rcases h1 with ⟨a0, a1, a2⟩ | ⟨n, p, e1, a1, hp, a2, k1, k2, k3, k4, k5, k6⟩
  · have m24 : σm 93 24 = σ 93 24 := xm_at hc (okM_of (M := []) a2) hv (Or.inr sw93) rfl
    rcases h2 with ⟨-, b1, b2⟩ | ⟨n, b0, -⟩
    · exact ⟨RQ_same hc hR a2 hv b2 hw, b1.trans a1.symm⟩
    · omega
  · have m24 : σm 93 24 = σ 93 24 := xm_at hc k1 hv (Or.inr sw93) (by decide)
    rcases h2 with ⟨b0, -⟩ | ⟨n2, b0, b1, s1, s2, s3, s4⟩
    · omega
    · have i1 : n2 = n := by omega
      subst i1
      have i2 : n0 = n2 + 1 := by omega
      subst i2
      refine ⟨?_, b1.trans a1.symm⟩
      have m95 : ∀ j : Nat, j < 232 → σm 95 j = σ 95 j := fun j hj => xm_at hc k1 hv (Or.inr (swr (by decide) hj)) (off_mk (by decide) j)
      have m98 : ∀ j : Nat, j < 400 → σm 98 j = σ 98 j := fun j hj => xm_at hc k1 hv (Or.inr (swr (by decide) hj)) (off_mk (by decide) j)
      have q95 : ∀ j : Nat, j < 232 → fw_c (σ 95 j) = σ 95 j := fun j hj => hc.1 95 j (Or.inr (swr (by decide) hj))
      have q98 : ∀ j : Nat, j < 400 → fw_c (σ 98 j) = σ 98 j := fun j hj => hc.1 98 j (Or.inr (swr (by decide) hj))
      have q9 : ∀ j : Nat, j < 45 → fw_c (σ 9 j) = σ 9 j := fun j hj => hc.1 9 j (Or.inr (swr (by decide) hj))
      have q10 : ∀ j : Nat, j < 5 → fw_c (σ 10 j) = σ 10 j := fun j hj => hc.1 10 j (Or.inr (swr (by decide) hj))
      have q86 : ∀ j : Nat, j < 88 → fw_c (σ 86 j) = σ 86 j := fun j hj => hc.1 86 j (Or.inr (swr (by decide) hj))
      have o95 : ∀ j : Nat, j < 182 → σ5 95 j = σ 95 j := fun j hj => by
        rw [hw.1 95 j (Or.inr (swr (k := 95) (n := 232) (by decide) (by omega))), s3 j (Or.inl hj), m95 j (by omega), q95 j (by omega)]
      have v95 : ∀ j : Nat, j < 50 → σ5 95 (182 + j) = σ 98 (50 * n2 + j) := fun j hj => by
        rw [hw.1 95 _ (Or.inr (swr (k := 95) (n := 232) (by decide) (by omega))), s4 j hj, fw_c_c, m98 _ (by omega), q98 _ (by omega)]
      have w9 : ∀ j : Nat, j < 45 → σ5 9 j = fw_c (σ1 9 j) := fun j hj => by
        rw [hw.1 9 j (Or.inr (swr (by decide) hj)), mk_row s1 (k := 9) (by decide), hv.1 9 j (Or.inr (swr (by decide) hj)), fw_c_c]
      have w10 : ∀ j : Nat, j < 5 → σ5 10 j = fw_c (σ1 10 j) := fun j hj => by
        rw [hw.1 10 j (Or.inr (swr (by decide) hj)), mk_row s1 (k := 10) (by decide), hv.1 10 j (Or.inr (swr (by decide) hj)), fw_c_c]
      obtain ⟨p2, hp2, hpp, r1, r2, r3, r4⟩ := hj n2 (Nat.lt_succ_self _)
      have r1' : σ 86 (11 * n2 + 10) = (p2 : Int) := r1
      have i3 : p2 = p := by omega
      subst i3
      have r2' : ∀ x : Nat, x < 9 → σ 86 (11 * n2 + x) = σ 98 (50 * n2 + (9 * p2 + x)) := r2
      have r3' : σ 86 (11 * n2 + 9) = σ 98 (50 * n2 + (45 + p2)) := r3
      have r4' : ∀ j : Nat, j < 50 → ¬ (9 * p2 ≤ j ∧ j < 9 * p2 + 9) → j ≠ 45 + p2 → σ 98 (50 * n2 + j) = σ 95 (182 + j) := fun j hj a b => by
        have h9 : σ 98 (50 * n2 + j) = jS σ (n2 + 1) (n2 + 1) j := r4 j hj a b
        unfold jS at h9
        rw [if_pos rfl] at h9
        exact h9
      have n9 : ∀ j : Nat, j < 45 → σ5 9 j = σ5 95 (182 + j) := fun j hj => by
        rw [w9 j hj, v95 j (by omega)]
        by_cases z : 9 * p2 ≤ j ∧ j < 9 * p2 + 9
        · obtain ⟨y, rfl⟩ : ∃ y : Nat, j = 9 * p2 + y := ⟨j - 9 * p2, by omega⟩
          rw [k4 y (by omega), fw_c_c, q86 _ (by omega), r2' y (by omega)]
        · rw [k3 j (by omega), r4' j (by omega) z (by omega), ← c9 j hj, q9 j hj]
      have n10 : ∀ j : Nat, (j : Int) < σ 3 13 → σ5 10 j = σ5 95 (227 + j) := fun j hj => by
        have h5 : j < 5 := by omega
        rw [w10 j h5, show 227 + j = 182 + (45 + j) by omega, v95 _ (by omega)]
        by_cases z : j = p2
        · subst z
          rw [k5, fw_c_c, q86 _ (by omega), r3']
        · rw [k6 j z, r4' (45 + j) (by omega) (by omega) (by omega), show 182 + (45 + j) = 227 + j by omega, ← c10 j hj, q10 j h5]
      have l10 : ∀ j : Nat, σ 3 13 ≤ (j : Int) → j < 5 → σ5 10 j = σ 10 j := fun j hj h5 => by
        rw [w10 j h5, k6 j (by omega), q10 j h5]
      obtain ⟨z9, z18, z33⟩ := ch_rest hc hR k1 hv s1 hw o95 (by decide +kernel) (by decide +kernel)
      have e3 : ∀ j : Nat, 11 ≤ j → j ≤ 14 → σ5 3 j = σ 3 j := fun j a b => xt_at hc k1 hv s1 hw (Or.inl (su3 a b)) (off_mk (by decide) j) (off_mk (by decide) j)
      refine ⟨z9, rc_ch hok5 e3 (fun q hq a b j hj => ?_) o95 (xt_at hc k1 hv s1 hw (Or.inl (su93 (Or.inr rfl))) (by decide) (by decide)) (fun j hj => xt_l hc k1 hv s1 hw (slr (by decide) hj) (off_mk (by decide) j) (off_mk (by decide) j)) n9 n10 l10 hx.1, z18, z33, n2, by omega, ?_, ?_, fun t ht => ?_⟩
      · have o1 : ∀ q ∈ cp_n, q.1 ≠ 6 → q.1 ≠ 7 → tk_M.all (fun z => !(z.1.beq (3 + q.1))) = true ∧ un_M.all (fun z => !(z.1.beq (3 + q.1))) = true := by decide +kernel
        have o2 := o1 q hq a b
        rcases cp_sw q hq 3 (by decide) with z | z
        · exact xt_at hc k1 hv s1 hw (Or.inr (swr z hj)) (off_mk o2.1 j) (off_mk o2.2 j)
        · exact xt_l hc k1 hv s1 hw (slr z hj) (off_mk o2.1 j) (off_mk o2.2 j)
      · rw [hw.1 85 1 (Or.inr sw85), mk_at s1 (by decide), hv.1 85 1 (Or.inr sw85), k2, fw_c_c]
        exact fw_c_id (by omega) (by omega)
      · rw [hw.1 93 24 (Or.inr sw93), s2]
        exact fw_c_id (by omega) (by omega)
      · have b98 : ∀ j : Nat, j < 400 → σ5 98 j = σ 98 j := fun j hj => xt_at hc k1 hv s1 hw (Or.inr (swr (by decide) hj)) (off_mk (by decide) j) (off_mk (by decide) j)
        refine jt_cg (e3 13 (by decide) (by decide)) (fun i hi => ?_) (fun j hj2 => b98 _ (by omega)) (fun j hj2 => ?_) (hj t (by omega))
        · exact xt_at hc k1 hv s1 hw (k := 86) (Or.inr (swr (k := 86) (n := 88) (by decide) (by omega))) (off_mk (by decide) _) (off_mk (by decide) _)
        · show jS σ5 n2 (t + 1) j = jS σ (n2 + 1) (t + 1) j
          unfold jS
          by_cases h9 : t + 1 = n2
          · rw [if_pos h9, if_neg (by omega), h9]
            exact v95 j hj2
          · rw [if_neg h9, if_neg (by omega)]
            exact b98 _ (by omega)
end
theorem kM_teach {σ σ' : ab_SG} {p x k v : Int} (h : k_teach p x k v σ σ') : ab_okM ch_M σ σ' := by
  rcases h with ⟨-, h, -⟩ | ⟨-, p', x', -, -, -, -, -, -, κ, k1, k2⟩
  · exact okM_of h
  · rw [k2]
    exact fw_okM_upa (okM_sub k1.1 (by decide)) (by decide)
theorem kM_dares {σ σ' : ab_SG} {p k v : Int} (h : k_dares p k v σ σ') : ab_okM ch_M σ σ' := by
  rcases h with ⟨-, h, -⟩ | ⟨-, p', -, -, -, -, κ, k1, k2⟩
  · exact okM_of h
  · rw [k2]
    exact fw_okM_upa (okM_sub k1.1 (by decide)) (by decide)
theorem kM_copies {σ σ' : ab_SG} {p q v : Int} (h : k_copies p q v σ σ') : ab_okM ch_M σ σ' := by
  rcases h with ⟨-, h, -⟩ | ⟨p', q', N, -, -, -, -, -, -, ⟨-, h⟩ | ⟨-, κ, k1, k2⟩⟩
  · exact okM_of h
  · exact okM_of h
  · exact fw_okM_tr (okM_sub k1.1 (by decide)) k2.1 (by decide)
theorem kM_undo {σ σ' : ab_SG} {v : Int} (h : k_undo v σ σ') : ab_okM ch_M σ σ' := by
  rcases h with ⟨-, -, h⟩ | ⟨n, p, -, -, -, -, h⟩
  · exact okM_of h
  · exact okM_sub h.1 (by decide)
/-- what a list of a frame's own leaves -/
def sy_b (M : ab_ML) : Bool := M.all (fun q => !(q.1.beq 95) || q.2.beq 3 || ((232 : Nat).ble q.2 && !(q.2.beq 1000000)))
theorem mk_95b {M : ab_ML} {σ σ' : ab_SG} (h : ab_okM M σ σ') (hb : sy_b M = true) {j : Nat} (hj : j < 232) (h3 : j ≠ 3) : σ' 95 j = σ 95 j := by
  refine h 95 j (fun q hq hh => ?_)
  have h1 := List.all_eq_true.mp hb q hq
  rw [hh.1, Nat.beq_refl, Bool.not_true, Bool.false_or, Bool.or_eq_true] at h1
  rcases h1 with h2 | h2
  · have h2 := Nat.eq_of_beq_eq_true h2
    rcases hh.2 with z | z
    · exact h3 (z.symm.trans h2)
    · rw [h2] at z
      exact absurd z (by decide)
  · rw [Bool.and_eq_true] at h2
    have h4 := Nat.le_of_ble_eq_true h2.1
    rcases hh.2 with z | z
    · omega
    · rw [z] at h2
      exact absurd h2.2 (by decide)
theorem rx_one {M : ab_ML} {σ σ' : ab_SG} (h : ab_okM M σ σ') (m : rx_c M = true) (h22 : ∀ j : Nat, j < 232 → mlN σ' j = mlN σ j) (h95 : ∀ j : Nat, 182 ≤ j → j < 232 → σ' 95 j = σ 95 j) (hx : rx σ) : rx σ' := by
  unfold rx_c at m
  simp only [Bool.and_eq_true] at m
  obtain ⟨⟨⟨⟨a1, a2⟩, a3⟩, ⟨⟨⟨⟨⟨a4, a5⟩, a6⟩, a7⟩, a8⟩, a9⟩⟩, b1, b2⟩ := m
  obtain ⟨x1, x2, x3, x4⟩ := hx
  exact ⟨rc_cg (cb_M h a1) (fun j hj _ => h22 j hj) (fun j _ => mk_row h a8 j) x1, ri_cg (by decide) (cb_M h a2) (mk_row h a9 0) (fun j _ _ => mk_row h a6 j) (fun j _ _ => mk_row h a7 j) x2, ri_cg (by decide) (cb_M h a3) (mk_row h a9 1) (fun j _ _ => mk_row h a6 j) (fun j _ _ => mk_row h a7 j) x3,
    jr_cg ((cb_M h a1).1 13 (by decide) (by decide)) (mk_at h b1) (mk_at h b2) (fun j _ => mk_row h a4 j) (fun j _ => mk_row h a5 j) h95 x4⟩
end
section
/-! what is asked of a studio: notes, times, clues, tunes -/
def NC (σ A : ab_SG) : Prop := RI A ∧ nb_is A ∧ cn_is σ 3 A
def NM (σ A : ab_SG) : Prop := RI A ∧ nb_is A ∧ sr_is (mlN σ) (σ 99) A
theorem mlN_j {σ : ab_SG} {j : Nat} (h : j ≠ 3) : mlN σ j = σ 95 j := by
  unfold mlN
  exact if_neg (fun z => h z.2)
theorem NM_W {σ σm A : ab_SG} (hc : cN σ) (hi : RI A) (hn : nb_is A) (hs : sr_is (mlN σ) (σ 99) A) (hv : vW σm σ) : NM σm A := by
  have s1 := okM_self [] σ
  exact ⟨hi, hn, sr_cong hi (fun j hj _ => mlN_same (xm_at hc s1 hv (Or.inl (su93 (Or.inr rfl))) rfl) (fun j hj => xm_at hc s1 hv (Or.inr (swr (by decide) hj)) rfl) j hj) (fun j hj => xm_l hc s1 hv (slr (by decide) hj) rfl) hs⟩
theorem N_n {A : ab_SG} (h : RI A) : (0 ≤ A 49 11 ∧ A 49 11 ≤ 9) ∧ (0 ≤ A 49 12 ∧ A 49 12 ≤ 6) ∧ (0 ≤ A 49 13 ∧ A 49 13 ≤ 5) := ⟨h.1, h.2.1, h.2.2.1⟩
theorem N_sz {A : ab_SG} {x : Nat} (h : RI A) (hb : nb_is A) (hx : (x : Int) < A 49 11) : x < 9 ∧ 1 ≤ A 52 x ∧ A 52 x ≤ 9 := by
  have n := N_n h
  have a := h.2.2.2.2.2.2.1 x (by omega)
  exact ⟨by omega, (hb.1 x hx).1, a.2⟩
theorem NC_n {σ A : ab_SG} (h : NC σ A) : σ 3 11 = A 49 11 ∧ σ 3 12 = A 49 12 ∧ σ 3 13 = A 49 13 := ⟨h.2.2.1, h.2.2.2.1, h.2.2.2.2.1⟩
theorem NC_cl {σ A : ab_SG} {c : Nat} (h : NC σ A) (hc : (c : Int) < A 49 12) : σ 8 c = A 54 c := (h.2.2.2.2.2.2.2.1 c hc).1
theorem NM_n {σ A : ab_SG} (h : NM σ A) : σ 95 0 = A 49 11 ∧ σ 95 1 = A 49 12 ∧ σ 95 2 = A 49 13 := by
  obtain ⟨-, -, a, b, c, -⟩ := h
  rw [mlN_j (by decide)] at a b c
  exact ⟨a, b, c⟩
theorem NM_sz {σ A : ab_SG} {x : Nat} (h : NM σ A) (hx : (x : Int) < A 49 11) : σ 95 (5 + 19 * x) = A 52 x := by
  have a := (h.2.2.2.2.2.2.1 x hx).1
  rw [mlN_j (by omega)] at a
  exact a
theorem NM_nt {σ A : ab_SG} {x i : Nat} (h : NM σ A) (hx : (x : Int) < A 49 11) (hi : (i : Int) < A 52 x) : σ 95 (6 + 19 * x + 2 * i) = A 50 (x * 9 + i) ∧ σ 95 (7 + 19 * x + 2 * i) = A 51 (x * 9 + i) := by
  have a := (h.2.2.2.2.2.2.1 x hx).2 i hi
  rw [mlN_j (by omega), mlN_j (by omega)] at a
  exact a
theorem NM_cl {σ A : ab_SG} {c : Nat} (h : NM σ A) (hc : (c : Int) < A 49 12) : σ 95 (176 + c) = A 54 c := by
  have a := h.2.2.2.2.2.2.2.1 c hc
  rw [mlN_j (by omega)] at a
  exact a
theorem fw_s {x : Int} (h1 : -2000 ≤ x) (h2 : x ≤ 2000) : fw_c x = x := fw_c_id (by omega) (by omega)
def nq_T : List (Nat × Nat) := [(4, 81), (5, 81), (6, 9), (7, 324), (8, 6), (89, 100)]
def sp_atn : fw_SP := sp_of at_k nq_T
/-- the tunes that a clue leaves; all of them -/
def v_set (A : ab_SG) (c : Int) : Int := if c = -1 then p2_n (A 49 11) - 1 else A 54 c.toNat
def sp_allTunes3 : fw_SP := fun as σ K => ∃ A : ab_SG, as = [(2, 3, 0)] ∧ NC σ A ∧ K (some (0, 0, p2_n (A 49 11) - 1)) σ
def sp_setOf3 : fw_SP := fun as σ K => ∃ (A : ab_SG) (c : Int), as = [(2, 3, 0), (0, 0, c)] ∧ NC σ A ∧ (-1 ≤ c ∧ c < A 49 12) ∧ K (some (0, 0, v_set A c)) σ
def sp_m_notes : fw_SP := fun as σ K => ∃ x : Nat, as = [(2, 93, 0), (0, 0, (x : Int))] ∧ x < 9 ∧ K (some (0, 0, σ 95 (5 + 19 * x))) σ
def sp_m_noteOf : fw_SP := fun as σ K => ∃ x i w : Nat, as = [(2, 93, 0), (0, 0, (x : Int)), (0, 0, (i : Int)), (0, 0, (w : Int))] ∧ x < 9 ∧ i < 9 ∧ w < 2 ∧ K (some (0, 0, σ 95 (6 + w + 19 * x + 2 * i))) σ
theorem p2_sh : ∀ n : Nat, n ≤ 9 → fw_op 5 1 (n : Int) = p2_n (n : Int) := by decide +kernel
abbrev fk_at4 : List fw_CR := []
abbrev st_at4 : fw_K → fw_KR → fw_K := fw_st vwCl nn_sh nn_kd fw_kv fw_wc (nn_KI1.map (fun x => x.1)) (nn_KJ1.map (fun x => x.1)) (nn_PF1.map (fun x => x.1)) (nn_PS1.map (fun x => x.1)) fk_at4 0 nn_dt29 2 0
theorem fs_at4_0 {G : fw_K} {R : fw_KR} (hG : fw_cls st_at4 R G) {x : Int} {σ : ab_SG} (h : (fw_c x < 0 → R (some (0, 0, 0)) σ) ∧ (0 ≤ fw_c x → (fw_c ((81 : Nat) : Int) ≤ fw_c x → R (some (0, 0, 0)) σ) ∧ (fw_c x < fw_c ((81 : Nat) : Int) → (0 ≤ fw_c x ∧ fw_c x < ((81 : Nat) : Int)) ∧ (R (some (0, 0, σ 4 (fw_c x).toNat)) σ)))) : G 0 [some (2, 4, 0), some (0, 0, x)] [] σ := fw_on hG [] 200 h
abbrev fk_at5 : List fw_CR := []
abbrev st_at5 : fw_K → fw_KR → fw_K := fw_st vwCl nn_sh nn_kd fw_kv fw_wc (nn_KI1.map (fun x => x.1)) (nn_KJ1.map (fun x => x.1)) (nn_PF1.map (fun x => x.1)) (nn_PS1.map (fun x => x.1)) fk_at5 0 nn_dt29 2 0
theorem fs_at5_0 {G : fw_K} {R : fw_KR} (hG : fw_cls st_at5 R G) {x : Int} {σ : ab_SG} (h : (fw_c x < 0 → R (some (0, 0, 0)) σ) ∧ (0 ≤ fw_c x → (fw_c ((81 : Nat) : Int) ≤ fw_c x → R (some (0, 0, 0)) σ) ∧ (fw_c x < fw_c ((81 : Nat) : Int) → (0 ≤ fw_c x ∧ fw_c x < ((81 : Nat) : Int)) ∧ (R (some (0, 0, σ 5 (fw_c x).toNat)) σ)))) : G 0 [some (2, 5, 0), some (0, 0, x)] [] σ := fw_on hG [] 200 h
abbrev fk_at6 : List fw_CR := []
abbrev st_at6 : fw_K → fw_KR → fw_K := fw_st vwCl nn_sh nn_kd fw_kv fw_wc (nn_KI1.map (fun x => x.1)) (nn_KJ1.map (fun x => x.1)) (nn_PF1.map (fun x => x.1)) (nn_PS1.map (fun x => x.1)) fk_at6 0 nn_dt29 2 0
theorem fs_at6_0 {G : fw_K} {R : fw_KR} (hG : fw_cls st_at6 R G) {x : Int} {σ : ab_SG} (h : (fw_c x < 0 → R (some (0, 0, 0)) σ) ∧ (0 ≤ fw_c x → (fw_c ((9 : Nat) : Int) ≤ fw_c x → R (some (0, 0, 0)) σ) ∧ (fw_c x < fw_c ((9 : Nat) : Int) → (0 ≤ fw_c x ∧ fw_c x < ((9 : Nat) : Int)) ∧ (R (some (0, 0, σ 6 (fw_c x).toNat)) σ)))) : G 0 [some (2, 6, 0), some (0, 0, x)] [] σ := fw_on hG [] 200 h
abbrev fk_at7 : List fw_CR := []
abbrev st_at7 : fw_K → fw_KR → fw_K := fw_st vwCl nn_sh nn_kd fw_kv fw_wc (nn_KI1.map (fun x => x.1)) (nn_KJ1.map (fun x => x.1)) (nn_PF1.map (fun x => x.1)) (nn_PS1.map (fun x => x.1)) fk_at7 0 nn_dt29 2 0
theorem fs_at7_0 {G : fw_K} {R : fw_KR} (hG : fw_cls st_at7 R G) {x : Int} {σ : ab_SG} (h : (fw_c x < 0 → R (some (0, 0, 0)) σ) ∧ (0 ≤ fw_c x → (fw_c ((324 : Nat) : Int) ≤ fw_c x → R (some (0, 0, 0)) σ) ∧ (fw_c x < fw_c ((324 : Nat) : Int) → (0 ≤ fw_c x ∧ fw_c x < ((324 : Nat) : Int)) ∧ (R (some (0, 0, σ 7 (fw_c x).toNat)) σ)))) : G 0 [some (2, 7, 0), some (0, 0, x)] [] σ := fw_on hG [] 200 h
abbrev fk_at8 : List fw_CR := []
abbrev st_at8 : fw_K → fw_KR → fw_K := fw_st vwCl nn_sh nn_kd fw_kv fw_wc (nn_KI1.map (fun x => x.1)) (nn_KJ1.map (fun x => x.1)) (nn_PF1.map (fun x => x.1)) (nn_PS1.map (fun x => x.1)) fk_at8 0 nn_dt29 2 0
theorem fs_at8_0 {G : fw_K} {R : fw_KR} (hG : fw_cls st_at8 R G) {x : Int} {σ : ab_SG} (h : (fw_c x < 0 → R (some (0, 0, 0)) σ) ∧ (0 ≤ fw_c x → (fw_c ((6 : Nat) : Int) ≤ fw_c x → R (some (0, 0, 0)) σ) ∧ (fw_c x < fw_c ((6 : Nat) : Int) → (0 ≤ fw_c x ∧ fw_c x < ((6 : Nat) : Int)) ∧ (R (some (0, 0, σ 8 (fw_c x).toNat)) σ)))) : G 0 [some (2, 8, 0), some (0, 0, x)] [] σ := fw_on hG [] 200 h
abbrev fk_at89 : List fw_CR := []
abbrev st_at89 : fw_K → fw_KR → fw_K := fw_st vwCl nn_sh nn_kd fw_kv fw_wc (nn_KI1.map (fun x => x.1)) (nn_KJ1.map (fun x => x.1)) (nn_PF1.map (fun x => x.1)) (nn_PS1.map (fun x => x.1)) fk_at89 0 nn_dt29 2 0
theorem fs_at89_0 {G : fw_K} {R : fw_KR} (hG : fw_cls st_at89 R G) {x : Int} {σ : ab_SG} (h : (fw_c x < 0 → R (some (0, 0, 0)) σ) ∧ (0 ≤ fw_c x → (fw_c ((100 : Nat) : Int) ≤ fw_c x → R (some (0, 0, 0)) σ) ∧ (fw_c x < fw_c ((100 : Nat) : Int) → (0 ≤ fw_c x ∧ fw_c x < ((100 : Nat) : Int)) ∧ (R (some (0, 0, σ 89 (fw_c x).toNat)) σ)))) : G 0 [some (2, 89, 0), some (0, 0, x)] [] σ := fw_on hG [] 200 h
abbrev fk_allTunes3 : List fw_CR := []
abbrev st_allTunes3 : fw_K → fw_KR → fw_K := fw_st vwCl nn_sh nn_kd fw_kv fw_wc (nn_KI6.map (fun x => x.1)) (nn_KJ6.map (fun x => x.1)) (nn_PF6.map (fun x => x.1)) (nn_PS6.map (fun x => x.1)) fk_allTunes3 0 nn_dt65 1 0
theorem fs_allTunes3_0 {G : fw_K} {R : fw_KR} (hG : fw_cls st_allTunes3 R G) {σ : ab_SG} (h : R (some (0, 0, (fw_op 5 1 (σ 3 11)) - 1)) σ) : G 0 [some (2, 3, 0)] [] σ := fw_on hG [] 200 h
abbrev fk_setOf3 : List fw_CR := [(88, 0, true, 6, 0, sp_allTunes3), (92, 2, false, 0, 0, sp_atn)]
abbrev st_setOf3 : fw_K → fw_KR → fw_K := fw_st vwCl nn_sh nn_kd fw_kv fw_wc (nn_KI6.map (fun x => x.1)) (nn_KJ6.map (fun x => x.1)) (nn_PF6.map (fun x => x.1)) (nn_PS6.map (fun x => x.1)) fk_setOf3 1 nn_dt64 2 0
theorem fs_setOf3_0 {G : fw_K} {R : fw_KR} (hG : fw_cls st_setOf3 R G) {c : Int} {σ : ab_SG} (h : (fw_c c ≠ fw_c (-1) → sp_atn [(2, 8, 0), (0, 0, c)] σ (fun rv σ2 => G 20 [some (2, 3, 0), some (0, 0, c)] (rv.toList ++ []) σ2)) ∧ (fw_c c = fw_c (-1) → sp_allTunes3 [(2, 3, 0)] σ (fun rv σ2 => G 9 [some (2, 3, 0), some (0, 0, c)] (rv.toList ++ []) σ2))) : G 0 [some (2, 3, 0), some (0, 0, c)] [] σ := fw_on hG [9, 20] 200 h
theorem fs_setOf3_20 {G : fw_K} {R : fw_KR} (hG : fw_cls st_setOf3 R G) {a1 b0 : Int} {σ : ab_SG} (h : R (some (0, 0, b0)) σ) : G 20 [some (2, 3, 0), some (0, 0, a1)] [(0, 0, b0)] σ := fw_on hG [9, 20] 200 h
theorem fs_setOf3_9 {G : fw_K} {R : fw_KR} (hG : fw_cls st_setOf3 R G) {a1 b0 : Int} {σ : ab_SG} (h : G 20 [some (2, 3, 0), some (0, 0, a1)] [(0, 0, b0)] σ) : G 9 [some (2, 3, 0), some (0, 0, a1)] [(0, 0, b0)] σ := fw_on hG [9, 20] 200 h
abbrev fk_m_notes : List fw_CR := []
abbrev st_m_notes : fw_K → fw_KR → fw_K := fw_st vwCl nn_sh nn_kd fw_kv fw_wc (nn_KI20.map (fun x => x.1)) (nn_KJ20.map (fun x => x.1)) (nn_PF20.map (fun x => x.1)) (nn_PS20.map (fun x => x.1)) fk_m_notes 1 nn_dt241 2 0
theorem fs_m_notes_0 {G : fw_K} {R : fw_KR} (hG : fw_cls st_m_notes R G) {x : Int} {σ : ab_SG} (h : (0 ≤ fw_c (5 + (19 * x)) ∧ fw_c (5 + (19 * x)) < ((474 : Nat) : Int)) ∧ (R (some (0, 0, σ 95 (fw_c (5 + (19 * x))).toNat)) σ)) : G 0 [some (2, 93, 0), some (0, 0, x)] [] σ := fw_on hG [] 200 h
abbrev fk_m_noteOf : List fw_CR := []
abbrev st_m_noteOf : fw_K → fw_KR → fw_K := fw_st vwCl nn_sh nn_kd fw_kv fw_wc (nn_KI20.map (fun x => x.1)) (nn_KJ20.map (fun x => x.1)) (nn_PF20.map (fun x => x.1)) (nn_PS20.map (fun x => x.1)) fk_m_noteOf 1 nn_dt242 4 0
theorem fs_m_noteOf_0 {G : fw_K} {R : fw_KR} (hG : fw_cls st_m_noteOf R G) {x i w : Int} {σ : ab_SG} (h : (0 ≤ fw_c ((((5 + (19 * x)) + 1) + (2 * i)) + w) ∧ fw_c ((((5 + (19 * x)) + 1) + (2 * i)) + w) < ((474 : Nat) : Int)) ∧ (R (some (0, 0, σ 95 (fw_c ((((5 + (19 * x)) + 1) + (2 * i)) + w)).toNat)) σ)) : G 0 [some (2, 93, 0), some (0, 0, x), some (0, 0, i), some (0, 0, w)] [] σ := fw_on hG [] 200 h
section
variable {l : Launch} {cy : Nat → ClassId} {ad wr cr : Nat → Nat} {D : va_G}
theorem fm_at4 (hinj : nn_inj ad) : fw_H l cy ad wr cr D 29 0 (at_k 4 81) := fw_mk hinj (⟨"NameNotes", "at", "([II)I"⟩, prog_1_method_84_code, 2, (Option.some Jvm.ClassFile.FieldType.int), 2, false, 0) rfl rfl nn_KI1_ok nn_KJ1_ok nn_PF1_ok nn_PS1_ok (by decide +kernel) rfl rfl (fun _ h => absurd h List.not_mem_nil) (fun as σ K h => by
  obtain ⟨x, rfl, h1, h2⟩ := h
  exact ⟨rfl, fun G hG => at_gen (k := 4) (n := 81) (K := K) (σ := σ) (x := x) (by decide) (fs_at4_0 hG) h1 h2⟩)
theorem fm_at5 (hinj : nn_inj ad) : fw_H l cy ad wr cr D 29 0 (at_k 5 81) := fw_mk hinj (⟨"NameNotes", "at", "([II)I"⟩, prog_1_method_84_code, 2, (Option.some Jvm.ClassFile.FieldType.int), 2, false, 0) rfl rfl nn_KI1_ok nn_KJ1_ok nn_PF1_ok nn_PS1_ok (by decide +kernel) rfl rfl (fun _ h => absurd h List.not_mem_nil) (fun as σ K h => by
  obtain ⟨x, rfl, h1, h2⟩ := h
  exact ⟨rfl, fun G hG => at_gen (k := 5) (n := 81) (K := K) (σ := σ) (x := x) (by decide) (fs_at5_0 hG) h1 h2⟩)
theorem fm_at6 (hinj : nn_inj ad) : fw_H l cy ad wr cr D 29 0 (at_k 6 9) := fw_mk hinj (⟨"NameNotes", "at", "([II)I"⟩, prog_1_method_84_code, 2, (Option.some Jvm.ClassFile.FieldType.int), 2, false, 0) rfl rfl nn_KI1_ok nn_KJ1_ok nn_PF1_ok nn_PS1_ok (by decide +kernel) rfl rfl (fun _ h => absurd h List.not_mem_nil) (fun as σ K h => by
  obtain ⟨x, rfl, h1, h2⟩ := h
  exact ⟨rfl, fun G hG => at_gen (k := 6) (n := 9) (K := K) (σ := σ) (x := x) (by decide) (fs_at6_0 hG) h1 h2⟩)
theorem fm_at7 (hinj : nn_inj ad) : fw_H l cy ad wr cr D 29 0 (at_k 7 324) := fw_mk hinj (⟨"NameNotes", "at", "([II)I"⟩, prog_1_method_84_code, 2, (Option.some Jvm.ClassFile.FieldType.int), 2, false, 0) rfl rfl nn_KI1_ok nn_KJ1_ok nn_PF1_ok nn_PS1_ok (by decide +kernel) rfl rfl (fun _ h => absurd h List.not_mem_nil) (fun as σ K h => by
  obtain ⟨x, rfl, h1, h2⟩ := h
  exact ⟨rfl, fun G hG => at_gen (k := 7) (n := 324) (K := K) (σ := σ) (x := x) (by decide) (fs_at7_0 hG) h1 h2⟩)
theorem fm_at8 (hinj : nn_inj ad) : fw_H l cy ad wr cr D 29 0 (at_k 8 6) := fw_mk hinj (⟨"NameNotes", "at", "([II)I"⟩, prog_1_method_84_code, 2, (Option.some Jvm.ClassFile.FieldType.int), 2, false, 0) rfl rfl nn_KI1_ok nn_KJ1_ok nn_PF1_ok nn_PS1_ok (by decide +kernel) rfl rfl (fun _ h => absurd h List.not_mem_nil) (fun as σ K h => by
  obtain ⟨x, rfl, h1, h2⟩ := h
  exact ⟨rfl, fun G hG => at_gen (k := 8) (n := 6) (K := K) (σ := σ) (x := x) (by decide) (fs_at8_0 hG) h1 h2⟩)
theorem fm_at89 (hinj : nn_inj ad) : fw_H l cy ad wr cr D 29 0 (at_k 89 100) := fw_mk hinj (⟨"NameNotes", "at", "([II)I"⟩, prog_1_method_84_code, 2, (Option.some Jvm.ClassFile.FieldType.int), 2, false, 0) rfl rfl nn_KI1_ok nn_KJ1_ok nn_PF1_ok nn_PS1_ok (by decide +kernel) rfl rfl (fun _ h => absurd h List.not_mem_nil) (fun as σ K h => by
  obtain ⟨x, rfl, h1, h2⟩ := h
  exact ⟨rfl, fun G hG => at_gen (k := 89) (n := 100) (K := K) (σ := σ) (x := x) (by decide) (fs_at89_0 hG) h1 h2⟩)
theorem fm_atn (hinj : nn_inj ad) : fw_H l cy ad wr cr D 29 0 sp_atn := fw_H_of (List.forall_mem_cons.mpr ⟨fm_at4 hinj, (List.forall_mem_cons.mpr ⟨fm_at5 hinj, (List.forall_mem_cons.mpr ⟨fm_at6 hinj, (List.forall_mem_cons.mpr ⟨fm_at7 hinj, (List.forall_mem_cons.mpr ⟨fm_at8 hinj, (List.forall_mem_cons.mpr ⟨fm_at89 hinj, (fun _ h => absurd h List.not_mem_nil)⟩)⟩)⟩)⟩)⟩)⟩)
theorem fm_allTunes3 (hinj : nn_inj ad) : fw_H l cy ad wr cr D 65 0 sp_allTunes3 := fw_mk hinj (⟨"NameNotes$Studio", "allTunes", "()I"⟩, prog_8_method_9_code, 1, (Option.some Jvm.ClassFile.FieldType.int), 0, true, 0) rfl rfl nn_KI6_ok nn_KJ6_ok nn_PF6_ok nn_PS6_ok (by decide +kernel) rfl rfl (fun _ h => absurd h List.not_mem_nil) (fun as σ K h => by
  obtain ⟨A, rfl, hN, h⟩ := h
  have n := N_n hN.1
  obtain ⟨N, eN⟩ := Int.eq_ofNat_of_zero_le n.1.1
  refine ⟨rfl, fun G hG => fs_allTunes3_0 hG ?_⟩
  rw [(NC_n hN).1, eN, p2_sh N (by omega), ← eN]
  exact h)
theorem fm_setOf3 (hinj : nn_inj ad) : fw_H l cy ad wr cr D 64 1 sp_setOf3 := fw_mk hinj (⟨"NameNotes$Studio", "setOf", "(I)I"⟩, prog_8_method_8_code, 2, (Option.some Jvm.ClassFile.FieldType.int), 1, true, 0) rfl rfl nn_KI6_ok nn_KJ6_ok nn_PF6_ok nn_PS6_ok (by decide +kernel) rfl rfl (List.forall_mem_cons.mpr ⟨fw_row nn_PM6_ok (x := 88) (k := 0) (mn := 65) (np := 0) (ob := true) (ci := 6) (⟨"NameNotes$Studio", "allTunes", "()I"⟩, prog_8_method_9_code, 1, (Option.some Jvm.ClassFile.FieldType.int), 0, true, 0) rfl (by decide +kernel) rfl rfl (by decide) (fun _ => ⟨_, _, rfl⟩) (fm_allTunes3 hinj), (List.forall_mem_cons.mpr ⟨fw_row nn_PM6_ok (x := 92) (k := 2) (mn := 29) (np := 2) (ob := false) (ci := 0) (⟨"NameNotes", "at", "([II)I"⟩, prog_1_method_84_code, 2, (Option.some Jvm.ClassFile.FieldType.int), 2, false, 0) rfl (by decide +kernel) rfl rfl (by decide) (fun q => by cases q) (fm_atn hinj), (fun _ h => absurd h List.not_mem_nil)⟩)⟩) (fun as σ K h => by
  obtain ⟨A, c, rfl, hN, ⟨c0, c1⟩, h⟩ := h
  have n := N_n hN.1
  unfold v_set at h
  refine ⟨rfl, fun G hG => fs_setOf3_0 hG ?_⟩
  rw [fw_s (x := c) (by omega) (by omega), fw_s (x := -1) (by decide) (by decide)]
  refine ⟨fun q => ?_, fun q => ⟨A, rfl, hN, fs_setOf3_9 hG (fs_setOf3_20 hG ?_)⟩⟩
  · obtain ⟨c', rfl⟩ := Int.eq_ofNat_of_zero_le (show 0 ≤ c by omega)
    have ec : fw_c (c' : Int) = (c' : Int) := fw_s (by omega) (by omega)
    rw [if_neg q, Int.toNat_natCast] at h
    refine ⟨(8, 6), by decide, _, rfl, fun _ => fs_setOf3_20 hG ?_, fun z => absurd (by rw [ec]; exact ⟨Int.natCast_nonneg _, by omega⟩) z⟩
    rw [ec, Int.toNat_natCast, NC_cl hN c1]
    exact h
  · rw [if_pos q] at h
    exact h)
theorem fm_m_notes (hinj : nn_inj ad) : fw_H l cy ad wr cr D 241 1 sp_m_notes := fw_mk hinj (⟨"NameNotesModel", "notes", "(I)I"⟩, prog_14_method_45_code, 2, (Option.some Jvm.ClassFile.FieldType.int), 1, true, 0) rfl rfl nn_KI20_ok nn_KJ20_ok nn_PF20_ok nn_PS20_ok (by decide +kernel) rfl rfl (fun _ h => absurd h List.not_mem_nil) (fun as σ K h => by
  obtain ⟨x, rfl, hx, h⟩ := h
  have e : fw_c (5 + 19 * (x : Int)) = ((5 + 19 * x : Nat) : Int) := by rw [fw_c_id (by omega) (by omega)]; omega
  refine ⟨rfl, fun G hG => fs_m_notes_0 hG ?_⟩
  rw [e, Int.toNat_natCast]
  exact ⟨⟨Int.natCast_nonneg _, by omega⟩, h⟩)
theorem fm_m_noteOf (hinj : nn_inj ad) : fw_H l cy ad wr cr D 242 1 sp_m_noteOf := fw_mk hinj (⟨"NameNotesModel", "noteOf", "(III)I"⟩, prog_14_method_46_code, 4, (Option.some Jvm.ClassFile.FieldType.int), 3, true, 0) rfl rfl nn_KI20_ok nn_KJ20_ok nn_PF20_ok nn_PS20_ok (by decide +kernel) rfl rfl (fun _ h => absurd h List.not_mem_nil) (fun as σ K h => by
  obtain ⟨x, i, w, rfl, hx, hi, hw, h⟩ := h
  have e : fw_c ((((5 + 19 * (x : Int)) + 1) + 2 * (i : Int)) + (w : Int)) = ((6 + w + 19 * x + 2 * i : Nat) : Int) := by rw [fw_c_id (by omega) (by omega)]; omega
  refine ⟨rfl, fun G hG => fs_m_noteOf_0 hG ?_⟩
  rw [e, Int.toNat_natCast]
  exact ⟨⟨Int.natCast_nonneg _, by omega⟩, h⟩)
end
end
section
/-! which tunes begin alike -/
def v_lk (A : ab_SG) (x n w s : Int) : Nat → Int
  | 0 => 0
  | y + 1 => if pr_hs s (y : Int) = true ∧ n ≤ pr_cs A x (y : Int) w 9 0 then fw_op 9 (v_lk A x n w s y) (fw_op 5 1 (y : Int)) else v_lk A x n w s y
theorem v_lk_s (A : ab_SG) (x n w s : Int) (y : Nat) : v_lk A x n w s (y + 1) = if pr_hs s (y : Int) = true ∧ n ≤ pr_cs A x (y : Int) w 9 0 then fw_op 9 (v_lk A x n w s y) (fw_op 5 1 (y : Int)) else v_lk A x n w s y := rfl
theorem hs_t {s x : Int} (h : pr_hs s x = true) : fw_c (fw_op 8 (fw_op 6 s x) 1) = 1 := of_decide_eq_true h
theorem hs_of {s x : Int} (h : fw_c (fw_op 8 (fw_op 6 s x) 1) = 1) : pr_hs s x = true := decide_eq_true h
def sp_sharedNotes3 : fw_SP := fun as σ K => ∃ (A : ab_SG) (x y w : Nat), as = [(2, 3, 0), (0, 0, (x : Int)), (0, 0, (y : Int)), (0, 0, (w : Int))] ∧ NC σ A ∧ (x : Int) < A 49 11 ∧ (y : Int) < A 49 11 ∧ w < 4 ∧ K (some (0, 0, pr_cs A (x : Int) (y : Int) (w : Int) 9 0)) σ
def sp_likes3 : fw_SP := fun as σ K => ∃ (A : ab_SG) (x : Nat) (n : Int) (w : Nat) (s : Int), as = [(2, 3, 0), (0, 0, (x : Int)), (0, 0, n), (0, 0, (w : Int)), (0, 0, s)] ∧ NC σ A ∧ (x : Int) < A 49 11 ∧ (1 ≤ n ∧ n ≤ 9) ∧ w < 4 ∧ K (some (0, 0, v_lk A (x : Int) n (w : Int) s (A 49 11).toNat)) σ
def sp_m_isLikeNote : fw_SP := fun as σ K => ∃ (A : ab_SG) (x y i w : Nat), as = [(2, 93, 0), (0, 0, (x : Int)), (0, 0, (y : Int)), (0, 0, (i : Int)), (0, 0, (w : Int))] ∧ NM σ A ∧ (x : Int) < A 49 11 ∧ (y : Int) < A 49 11 ∧ i < 9 ∧ w < 4 ∧ K (some (0, 0, fw_bo (pr_sn A (x : Int) (y : Int) (i : Int) (w : Int)))) σ
def sp_m_likeNotes : fw_SP := fun as σ K => ∃ (A : ab_SG) (x y w : Nat), as = [(2, 93, 0), (0, 0, (x : Int)), (0, 0, (y : Int)), (0, 0, (w : Int))] ∧ NM σ A ∧ (x : Int) < A 49 11 ∧ (y : Int) < A 49 11 ∧ w < 4 ∧ K (some (0, 0, pr_cs A (x : Int) (y : Int) (w : Int) 9 0)) σ
def sp_m_areLike : fw_SP := fun as σ K => ∃ (A : ab_SG) (x y : Nat) (n : Int) (w : Nat), as = [(2, 93, 0), (0, 0, (x : Int)), (0, 0, (y : Int)), (0, 0, n), (0, 0, (w : Int))] ∧ NM σ A ∧ (x : Int) < A 49 11 ∧ (y : Int) < A 49 11 ∧ (1 ≤ n ∧ n ≤ 9) ∧ w < 4 ∧ K (some (0, 0, fw_bo (n ≤ pr_cs A (x : Int) (y : Int) (w : Int) 9 0))) σ
def sp_m_likes : fw_SP := fun as σ K => ∃ (A : ab_SG) (x : Nat) (n : Int) (w : Nat) (s : Int), as = [(2, 93, 0), (0, 0, (x : Int)), (0, 0, n), (0, 0, (w : Int)), (0, 0, s)] ∧ NM σ A ∧ (x : Int) < A 49 11 ∧ (1 ≤ n ∧ n ≤ 9) ∧ w < 4 ∧ K (some (0, 0, v_lk A (x : Int) n (w : Int) s (A 49 11).toNat)) σ
theorem sn_no {A : ab_SG} {x y i w : Nat} (hx : (x : Int) < A 49 11) (hy : (y : Int) < A 49 11) (h : ¬ ((i : Int) < A 52 x ∧ (i : Int) < A 52 y)) : pr_sn A (x : Int) (y : Int) (i : Int) (w : Int) ↔ ((i : Int) < A 52 x ↔ (i : Int) < A 52 y) := by
  unfold pr_sn
  rw [Int.toNat_natCast, Int.toNat_natCast, if_neg (fun z => h ⟨z.1.2, z.2.2⟩)]
  exact ⟨fun q => ⟨fun a => (q.mp ⟨hx, a⟩).2, fun a => (q.mpr ⟨hy, a⟩).2⟩, fun q => ⟨fun a => ⟨hy, q.mp a.2⟩, fun a => ⟨hx, q.mpr a.2⟩⟩⟩
theorem sn_yes {A : ab_SG} {x y i w : Nat} (hx : (x : Int) < A 49 11) (hy : (y : Int) < A 49 11) (h1 : (i : Int) < A 52 x) (h2 : (i : Int) < A 52 y) : pr_sn A (x : Int) (y : Int) (i : Int) (w : Int) ↔ (if (w : Int) = 3 then fw_c (A 50 (x * 9 + i) - A 50 (x * 9 + 0)) = fw_c (A 50 (y * 9 + i) - A 50 (y * 9 + 0)) else ((w : Int) = 2 ∨ fw_c (A 50 (x * 9 + i)) = fw_c (A 50 (y * 9 + i))) ∧ ((w : Int) = 1 ∨ fw_c (A 51 (x * 9 + i)) = fw_c (A 51 (y * 9 + i)))) := by
  have e : ∀ a b : Nat, ((a : Int) * 9 + (b : Int)).toNat = a * 9 + b := fun a b => by omega
  have e0 : ∀ a : Nat, ((a : Int) * 9 + 0).toNat = a * 9 + 0 := fun a => by omega
  unfold pr_sn
  rw [Int.toNat_natCast, Int.toNat_natCast, if_pos ⟨⟨hx, h1⟩, ⟨hy, h2⟩⟩, e, e, e0, e0]
theorem pr_cs_s (A : ab_SG) (x y w : Int) (f i : Nat) : pr_cs A x y w (f + 1) i = if pr_sn A x y i w then pr_cs A x y w f (i + 1) else i := rfl
theorem NC_sh {σ A : ab_SG} (h : NC σ A) {x y w : Nat} (hw : w < 4) (hx : (x : Int) < A 49 11) (hy : (y : Int) < A 49 11) : σ 7 ((w * 9 + x) * 9 + y) = pr_cs A (x : Int) (y : Int) (w : Int) 9 0 := h.2.2.2.2.2.2.2.2.2.2.2 w x y hw hx hy
abbrev fk_sharedNotes3 : List fw_CR := [(92, 2, false, 0, 0, sp_atn), (122, 3, false, 0, 0, sp_pair)]
abbrev st_sharedNotes3 : fw_K → fw_KR → fw_K := fw_st vwCl nn_sh nn_kd fw_kv fw_wc (nn_KI6.map (fun x => x.1)) (nn_KJ6.map (fun x => x.1)) (nn_PF6.map (fun x => x.1)) (nn_PS6.map (fun x => x.1)) fk_sharedNotes3 1 nn_dt75 4 0
theorem fs_sharedNotes3_0 {G : fw_K} {R : fw_KR} (hG : fw_cls st_sharedNotes3 R G) {x y w : Int} {σ : ab_SG} (h : sp_pair [(0, 0, x), (0, 0, y), (0, 0, w)] σ (fun rv σ2 => G 10 [some (2, 3, 0), some (0, 0, x), some (0, 0, y), some (0, 0, w)] (rv.toList ++ [(2, 7, 0)]) σ2)) : G 0 [some (2, 3, 0), some (0, 0, x), some (0, 0, y), some (0, 0, w)] [] σ := fw_on hG [10, 13] 200 h
theorem fs_sharedNotes3_10 {G : fw_K} {R : fw_KR} (hG : fw_cls st_sharedNotes3 R G) {a1 a2 a3 b0 : Int} {σ : ab_SG} (h : sp_atn [(2, 7, 0), (0, 0, b0)] σ (fun rv σ2 => G 13 [some (2, 3, 0), some (0, 0, a1), some (0, 0, a2), some (0, 0, a3)] (rv.toList ++ []) σ2)) : G 10 [some (2, 3, 0), some (0, 0, a1), some (0, 0, a2), some (0, 0, a3)] [(0, 0, b0), (2, 7, 0)] σ := fw_on hG [10, 13] 200 h
theorem fs_sharedNotes3_13 {G : fw_K} {R : fw_KR} (hG : fw_cls st_sharedNotes3 R G) {a1 a2 a3 b0 : Int} {σ : ab_SG} (h : R (some (0, 0, b0)) σ) : G 13 [some (2, 3, 0), some (0, 0, a1), some (0, 0, a2), some (0, 0, a3)] [(0, 0, b0)] σ := fw_on hG [10, 13] 200 h
abbrev fk_likes3 : List fw_CR := [(133, 2, false, 0, 0, sp_has), (136, 3, true, 6, 1, sp_sharedNotes3)]
abbrev st_likes3 : fw_K → fw_KR → fw_K := fw_st vwCl nn_sh nn_kd fw_kv fw_wc (nn_KI6.map (fun x => x.1)) (nn_KJ6.map (fun x => x.1)) (nn_PF6.map (fun x => x.1)) (nn_PS6.map (fun x => x.1)) fk_likes3 2 nn_dt74 7 0
theorem fs_likes3_0 {G : fw_K} {R : fw_KR} (hG : fw_cls st_likes3 R G) {x n w s : Int} {σ : ab_SG} (h : G 6 [some (2, 3, 0), some (0, 0, x), some (0, 0, n), some (0, 0, w), some (0, 0, s), some (0, 0, 0), some (0, 0, 0)] [] σ) : G 0 [some (2, 3, 0), some (0, 0, x), some (0, 0, n), some (0, 0, w), some (0, 0, s), none, none] [] σ := fw_on hG [6, 22, 33, 46] 200 h
theorem fs_likes3_6 {G : fw_K} {R : fw_KR} (hG : fw_cls st_likes3 R G) {a1 a2 a3 a4 a5 a6 : Int} {σ : ab_SG} (h : (fw_c (σ 3 11) ≤ fw_c a6 → R (some (0, 0, a5)) σ) ∧ (fw_c a6 < fw_c (σ 3 11) → sp_has [(0, 0, a4), (0, 0, a6)] σ (fun rv σ2 => G 22 [some (2, 3, 0), some (0, 0, a1), some (0, 0, a2), some (0, 0, a3), some (0, 0, a4), some (0, 0, a5), some (0, 0, a6)] (rv.toList ++ []) σ2))) : G 6 [some (2, 3, 0), some (0, 0, a1), some (0, 0, a2), some (0, 0, a3), some (0, 0, a4), some (0, 0, a5), some (0, 0, a6)] [] σ := fw_on hG [6, 22, 33, 46] 200 h
theorem fs_likes3_22 {G : fw_K} {R : fw_KR} (hG : fw_cls st_likes3 R G) {a1 a2 a3 a4 a5 a6 b0 : Int} {σ : ab_SG} (h : (fw_c b0 = 0 → G 46 [some (2, 3, 0), some (0, 0, a1), some (0, 0, a2), some (0, 0, a3), some (0, 0, a4), some (0, 0, a5), some (0, 0, a6)] [] σ) ∧ (fw_c b0 ≠ 0 → sp_sharedNotes3 [(2, 3, 0), (0, 0, a1), (0, 0, a6), (0, 0, a3)] σ (fun rv σ2 => G 33 [some (2, 3, 0), some (0, 0, a1), some (0, 0, a2), some (0, 0, a3), some (0, 0, a4), some (0, 0, a5), some (0, 0, a6)] (rv.toList ++ []) σ2))) : G 22 [some (2, 3, 0), some (0, 0, a1), some (0, 0, a2), some (0, 0, a3), some (0, 0, a4), some (0, 0, a5), some (0, 0, a6)] [(0, 0, b0)] σ := fw_on hG [6, 22, 33, 46] 200 h
theorem fs_likes3_46 {G : fw_K} {R : fw_KR} (hG : fw_cls st_likes3 R G) {a1 a2 a3 a4 a5 a6 : Int} {σ : ab_SG} (h : G 6 [some (2, 3, 0), some (0, 0, a1), some (0, 0, a2), some (0, 0, a3), some (0, 0, a4), some (0, 0, a5), some (0, 0, a6 + 1)] [] σ) : G 46 [some (2, 3, 0), some (0, 0, a1), some (0, 0, a2), some (0, 0, a3), some (0, 0, a4), some (0, 0, a5), some (0, 0, a6)] [] σ := fw_on hG [6, 22, 33, 46] 200 h
theorem fs_likes3_33 {G : fw_K} {R : fw_KR} (hG : fw_cls st_likes3 R G) {a1 a2 a3 a4 a5 a6 b0 : Int} {σ : ab_SG} (h : (fw_c b0 < fw_c a2 → G 46 [some (2, 3, 0), some (0, 0, a1), some (0, 0, a2), some (0, 0, a3), some (0, 0, a4), some (0, 0, a5), some (0, 0, a6)] [] σ) ∧ (fw_c a2 ≤ fw_c b0 → G 46 [some (2, 3, 0), some (0, 0, a1), some (0, 0, a2), some (0, 0, a3), some (0, 0, a4), some (0, 0, fw_op 9 a5 (fw_op 5 1 a6)), some (0, 0, a6)] [] σ)) : G 33 [some (2, 3, 0), some (0, 0, a1), some (0, 0, a2), some (0, 0, a3), some (0, 0, a4), some (0, 0, a5), some (0, 0, a6)] [(0, 0, b0)] σ := fw_on hG [6, 22, 33, 46] 200 h
abbrev fk_m_isLikeNote : List fw_CR := [(270, 1, true, 11, 1, sp_m_notes), (273, 3, true, 11, 1, sp_m_noteOf)]
abbrev st_m_isLikeNote : fw_K → fw_KR → fw_K := fw_st vwCl nn_sh nn_kd fw_kv fw_wc (nn_KI20.map (fun x => x.1)) (nn_KJ20.map (fun x => x.1)) (nn_PF20.map (fun x => x.1)) (nn_PS20.map (fun x => x.1)) fk_m_isLikeNote 2 nn_dt259 7 1
theorem fs_m_isLikeNote_0 {G : fw_K} {R : fw_KR} (hG : fw_cls st_m_isLikeNote R G) {x y i w : Int} {σ : ab_SG} (h : sp_m_notes [(2, 93, 0), (0, 0, x)] σ (fun rv σ2 => G 6 [some (2, 93, 0), some (0, 0, x), some (0, 0, y), some (0, 0, i), some (0, 0, w), none, none] (rv.toList ++ [(0, 0, i)]) σ2)) : G 0 [some (2, 93, 0), some (0, 0, x), some (0, 0, y), some (0, 0, i), some (0, 0, w), none, none] [] σ := fw_on hG [6, 15, 18, 24, 33, 49, 56, 64, 73, 80, 88, 103, 110, 118, 125] 200 h
theorem fs_m_isLikeNote_6 {G : fw_K} {R : fw_KR} (hG : fw_cls st_m_isLikeNote R G) {a1 a2 a3 a4 b0 b1 : Int} {σ : ab_SG} (h : (fw_c b0 ≤ fw_c b1 → G 18 [some (2, 93, 0), some (0, 0, a1), some (0, 0, a2), some (0, 0, a3), some (0, 0, a4), none, none] [] σ) ∧ (fw_c b1 < fw_c b0 → sp_m_notes [(2, 93, 0), (0, 0, a2)] σ (fun rv σ2 => G 15 [some (2, 93, 0), some (0, 0, a1), some (0, 0, a2), some (0, 0, a3), some (0, 0, a4), none, none] (rv.toList ++ [(0, 0, a3)]) σ2))) : G 6 [some (2, 93, 0), some (0, 0, a1), some (0, 0, a2), some (0, 0, a3), some (0, 0, a4), none, none] [(0, 0, b0), (0, 0, b1)] σ := fw_on hG [6, 15, 18, 24, 33, 49, 56, 64, 73, 80, 88, 103, 110, 118, 125] 200 h
theorem fs_m_isLikeNote_18 {G : fw_K} {R : fw_KR} (hG : fw_cls st_m_isLikeNote R G) {a1 a2 a3 a4 : Int} {σ : ab_SG} (h : sp_m_notes [(2, 93, 0), (0, 0, a1)] σ (fun rv σ2 => G 24 [some (2, 93, 0), some (0, 0, a1), some (0, 0, a2), some (0, 0, a3), some (0, 0, a4), none, none] (rv.toList ++ [(0, 0, a3)]) σ2)) : G 18 [some (2, 93, 0), some (0, 0, a1), some (0, 0, a2), some (0, 0, a3), some (0, 0, a4), none, none] [] σ := fw_on hG [6, 15, 18, 24, 33, 49, 56, 64, 73, 80, 88, 103, 110, 118, 125] 200 h
theorem fs_m_isLikeNote_15 {G : fw_K} {R : fw_KR} (hG : fw_cls st_m_isLikeNote R G) {a1 a2 a3 a4 b0 b1 : Int} {σ : ab_SG} (h : (fw_c b1 < fw_c b0 → sp_m_noteOf [(2, 93, 0), (0, 0, a1), (0, 0, a3), (0, 0, 0)] σ (fun rv σ2 => G 49 [some (2, 93, 0), some (0, 0, a1), some (0, 0, a2), some (0, 0, a3), some (0, 0, a4), none, none] (rv.toList ++ []) σ2)) ∧ (fw_c b0 ≤ fw_c b1 → G 18 [some (2, 93, 0), some (0, 0, a1), some (0, 0, a2), some (0, 0, a3), some (0, 0, a4), none, none] [] σ)) : G 15 [some (2, 93, 0), some (0, 0, a1), some (0, 0, a2), some (0, 0, a3), some (0, 0, a4), none, none] [(0, 0, b0), (0, 0, b1)] σ := fw_on hG [6, 15, 18, 24, 33, 49, 56, 64, 73, 80, 88, 103, 110, 118, 125] 200 h
theorem fs_m_isLikeNote_24 {G : fw_K} {R : fw_KR} (hG : fw_cls st_m_isLikeNote R G) {a1 a2 a3 a4 b0 b1 : Int} {σ : ab_SG} (h : (fw_c b1 < fw_c b0 → (0 ≤ fw_c 0 ∧ fw_c 0 ≤ 1) ∧ R (some (0, 0, 0)) σ) ∧ (fw_c b0 ≤ fw_c b1 → sp_m_notes [(2, 93, 0), (0, 0, a2)] σ (fun rv σ2 => G 33 [some (2, 93, 0), some (0, 0, a1), some (0, 0, a2), some (0, 0, a3), some (0, 0, a4), none, none] (rv.toList ++ [(0, 0, a3)]) σ2))) : G 24 [some (2, 93, 0), some (0, 0, a1), some (0, 0, a2), some (0, 0, a3), some (0, 0, a4), none, none] [(0, 0, b0), (0, 0, b1)] σ := fw_on hG [6, 15, 18, 24, 33, 49, 56, 64, 73, 80, 88, 103, 110, 118, 125] 200 h
theorem fs_m_isLikeNote_49 {G : fw_K} {R : fw_KR} (hG : fw_cls st_m_isLikeNote R G) {a1 a2 a3 a4 b0 : Int} {σ : ab_SG} (h : sp_m_noteOf [(2, 93, 0), (0, 0, a2), (0, 0, a3), (0, 0, 0)] σ (fun rv σ2 => G 56 [some (2, 93, 0), some (0, 0, a1), some (0, 0, a2), some (0, 0, a3), some (0, 0, a4), none, none] (rv.toList ++ [(0, 0, b0)]) σ2)) : G 49 [some (2, 93, 0), some (0, 0, a1), some (0, 0, a2), some (0, 0, a3), some (0, 0, a4), none, none] [(0, 0, b0)] σ := fw_on hG [6, 15, 18, 24, 33, 49, 56, 64, 73, 80, 88, 103, 110, 118, 125] 200 h
theorem fs_m_isLikeNote_33 {G : fw_K} {R : fw_KR} (hG : fw_cls st_m_isLikeNote R G) {a1 a2 a3 a4 b0 b1 : Int} {σ : ab_SG} (h : (fw_c b1 < fw_c b0 → (0 ≤ fw_c 0 ∧ fw_c 0 ≤ 1) ∧ R (some (0, 0, 0)) σ) ∧ (fw_c b0 ≤ fw_c b1 → (0 ≤ fw_c 1 ∧ fw_c 1 ≤ 1) ∧ R (some (0, 0, 1)) σ)) : G 33 [some (2, 93, 0), some (0, 0, a1), some (0, 0, a2), some (0, 0, a3), some (0, 0, a4), none, none] [(0, 0, b0), (0, 0, b1)] σ := fw_on hG [6, 15, 18, 24, 33, 49, 56, 64, 73, 80, 88, 103, 110, 118, 125] 200 h
theorem fs_m_isLikeNote_56 {G : fw_K} {R : fw_KR} (hG : fw_cls st_m_isLikeNote R G) {a1 a2 a3 a4 b0 b1 : Int} {σ : ab_SG} (h : (fw_c b1 ≠ fw_c b0 → G 64 [some (2, 93, 0), some (0, 0, a1), some (0, 0, a2), some (0, 0, a3), some (0, 0, a4), none, none] [(0, 0, 0)] σ) ∧ (fw_c b1 = fw_c b0 → G 64 [some (2, 93, 0), some (0, 0, a1), some (0, 0, a2), some (0, 0, a3), some (0, 0, a4), none, none] [(0, 0, 1)] σ)) : G 56 [some (2, 93, 0), some (0, 0, a1), some (0, 0, a2), some (0, 0, a3), some (0, 0, a4), none, none] [(0, 0, b0), (0, 0, b1)] σ := fw_on hG [6, 15, 18, 24, 33, 49, 56, 64, 73, 80, 88, 103, 110, 118, 125] 200 h
theorem fs_m_isLikeNote_64 {G : fw_K} {R : fw_KR} (hG : fw_cls st_m_isLikeNote R G) {a1 a2 a3 a4 b0 : Int} {σ : ab_SG} (h : sp_m_noteOf [(2, 93, 0), (0, 0, a1), (0, 0, a3), (0, 0, 1)] σ (fun rv σ2 => G 73 [some (2, 93, 0), some (0, 0, a1), some (0, 0, a2), some (0, 0, a3), some (0, 0, a4), some (0, 0, b0), none] (rv.toList ++ []) σ2)) : G 64 [some (2, 93, 0), some (0, 0, a1), some (0, 0, a2), some (0, 0, a3), some (0, 0, a4), none, none] [(0, 0, b0)] σ := fw_on hG [6, 15, 18, 24, 33, 49, 56, 64, 73, 80, 88, 103, 110, 118, 125] 200 h
theorem fs_m_isLikeNote_73 {G : fw_K} {R : fw_KR} (hG : fw_cls st_m_isLikeNote R G) {a1 a2 a3 a4 a5 b0 : Int} {σ : ab_SG} (h : sp_m_noteOf [(2, 93, 0), (0, 0, a2), (0, 0, a3), (0, 0, 1)] σ (fun rv σ2 => G 80 [some (2, 93, 0), some (0, 0, a1), some (0, 0, a2), some (0, 0, a3), some (0, 0, a4), some (0, 0, a5), none] (rv.toList ++ [(0, 0, b0)]) σ2)) : G 73 [some (2, 93, 0), some (0, 0, a1), some (0, 0, a2), some (0, 0, a3), some (0, 0, a4), some (0, 0, a5), none] [(0, 0, b0)] σ := fw_on hG [6, 15, 18, 24, 33, 49, 56, 64, 73, 80, 88, 103, 110, 118, 125] 200 h
theorem fs_m_isLikeNote_80 {G : fw_K} {R : fw_KR} (hG : fw_cls st_m_isLikeNote R G) {a1 a2 a3 a4 a5 b0 b1 : Int} {σ : ab_SG} (h : (fw_c b1 ≠ fw_c b0 → G 88 [some (2, 93, 0), some (0, 0, a1), some (0, 0, a2), some (0, 0, a3), some (0, 0, a4), some (0, 0, a5), none] [(0, 0, 0)] σ) ∧ (fw_c b1 = fw_c b0 → G 88 [some (2, 93, 0), some (0, 0, a1), some (0, 0, a2), some (0, 0, a3), some (0, 0, a4), some (0, 0, a5), none] [(0, 0, 1)] σ)) : G 80 [some (2, 93, 0), some (0, 0, a1), some (0, 0, a2), some (0, 0, a3), some (0, 0, a4), some (0, 0, a5), none] [(0, 0, b0), (0, 0, b1)] σ := fw_on hG [6, 15, 18, 24, 33, 49, 56, 64, 73, 80, 88, 103, 110, 118, 125] 200 h
theorem fs_m_isLikeNote_88 {G : fw_K} {R : fw_KR} (hG : fw_cls st_m_isLikeNote R G) {a1 a2 a3 a4 a5 b0 : Int} {σ : ab_SG} (h : (fw_c a4 ≠ fw_c 3 → (fw_c a4 ≠ 0 → (fw_c a4 ≠ fw_c 1 → (0 ≤ fw_c b0 ∧ fw_c b0 ≤ 1) ∧ R (some (0, 0, b0)) σ) ∧ (fw_c a4 = fw_c 1 → (0 ≤ fw_c a5 ∧ fw_c a5 ≤ 1) ∧ R (some (0, 0, a5)) σ)) ∧ (fw_c a4 = 0 → (fw_c a5 = 0 → (0 ≤ fw_c 0 ∧ fw_c 0 ≤ 1) ∧ R (some (0, 0, 0)) σ) ∧ (fw_c a5 ≠ 0 → (fw_c b0 = 0 → (0 ≤ fw_c 0 ∧ fw_c 0 ≤ 1) ∧ R (some (0, 0, 0)) σ) ∧ (fw_c b0 ≠ 0 → (0 ≤ fw_c 1 ∧ fw_c 1 ≤ 1) ∧ R (some (0, 0, 1)) σ)))) ∧ (fw_c a4 = fw_c 3 → sp_m_noteOf [(2, 93, 0), (0, 0, a1), (0, 0, a3), (0, 0, 0)] σ (fun rv σ2 => G 103 [some (2, 93, 0), some (0, 0, a1), some (0, 0, a2), some (0, 0, a3), some (0, 0, a4), some (0, 0, a5), some (0, 0, b0)] (rv.toList ++ []) σ2))) : G 88 [some (2, 93, 0), some (0, 0, a1), some (0, 0, a2), some (0, 0, a3), some (0, 0, a4), some (0, 0, a5), none] [(0, 0, b0)] σ := fw_on hG [6, 15, 18, 24, 33, 49, 56, 64, 73, 80, 88, 103, 110, 118, 125] 200 h
theorem fs_m_isLikeNote_103 {G : fw_K} {R : fw_KR} (hG : fw_cls st_m_isLikeNote R G) {a1 a2 a3 a4 a5 a6 b0 : Int} {σ : ab_SG} (h : sp_m_noteOf [(2, 93, 0), (0, 0, a1), (0, 0, 0), (0, 0, 0)] σ (fun rv σ2 => G 110 [some (2, 93, 0), some (0, 0, a1), some (0, 0, a2), some (0, 0, a3), some (0, 0, a4), some (0, 0, a5), some (0, 0, a6)] (rv.toList ++ [(0, 0, b0)]) σ2)) : G 103 [some (2, 93, 0), some (0, 0, a1), some (0, 0, a2), some (0, 0, a3), some (0, 0, a4), some (0, 0, a5), some (0, 0, a6)] [(0, 0, b0)] σ := fw_on hG [6, 15, 18, 24, 33, 49, 56, 64, 73, 80, 88, 103, 110, 118, 125] 200 h
theorem fs_m_isLikeNote_110 {G : fw_K} {R : fw_KR} (hG : fw_cls st_m_isLikeNote R G) {a1 a2 a3 a4 a5 a6 b0 b1 : Int} {σ : ab_SG} (h : sp_m_noteOf [(2, 93, 0), (0, 0, a2), (0, 0, a3), (0, 0, 0)] σ (fun rv σ2 => G 118 [some (2, 93, 0), some (0, 0, a1), some (0, 0, a2), some (0, 0, a3), some (0, 0, a4), some (0, 0, a5), some (0, 0, a6)] (rv.toList ++ [(0, 0, b1 - b0)]) σ2)) : G 110 [some (2, 93, 0), some (0, 0, a1), some (0, 0, a2), some (0, 0, a3), some (0, 0, a4), some (0, 0, a5), some (0, 0, a6)] [(0, 0, b0), (0, 0, b1)] σ := fw_on hG [6, 15, 18, 24, 33, 49, 56, 64, 73, 80, 88, 103, 110, 118, 125] 200 h
theorem fs_m_isLikeNote_118 {G : fw_K} {R : fw_KR} (hG : fw_cls st_m_isLikeNote R G) {a1 a2 a3 a4 a5 a6 b0 b1 : Int} {σ : ab_SG} (h : sp_m_noteOf [(2, 93, 0), (0, 0, a2), (0, 0, 0), (0, 0, 0)] σ (fun rv σ2 => G 125 [some (2, 93, 0), some (0, 0, a1), some (0, 0, a2), some (0, 0, a3), some (0, 0, a4), some (0, 0, a5), some (0, 0, a6)] (rv.toList ++ [(0, 0, b0), (0, 0, b1)]) σ2)) : G 118 [some (2, 93, 0), some (0, 0, a1), some (0, 0, a2), some (0, 0, a3), some (0, 0, a4), some (0, 0, a5), some (0, 0, a6)] [(0, 0, b0), (0, 0, b1)] σ := fw_on hG [6, 15, 18, 24, 33, 49, 56, 64, 73, 80, 88, 103, 110, 118, 125] 200 h
theorem fs_m_isLikeNote_125 {G : fw_K} {R : fw_KR} (hG : fw_cls st_m_isLikeNote R G) {a1 a2 a3 a4 a5 a6 b0 b1 b2 : Int} {σ : ab_SG} (h : (fw_c b2 ≠ fw_c (b1 - b0) → (0 ≤ fw_c 0 ∧ fw_c 0 ≤ 1) ∧ R (some (0, 0, 0)) σ) ∧ (fw_c b2 = fw_c (b1 - b0) → (0 ≤ fw_c 1 ∧ fw_c 1 ≤ 1) ∧ R (some (0, 0, 1)) σ)) : G 125 [some (2, 93, 0), some (0, 0, a1), some (0, 0, a2), some (0, 0, a3), some (0, 0, a4), some (0, 0, a5), some (0, 0, a6)] [(0, 0, b0), (0, 0, b1), (0, 0, b2)] σ := fw_on hG [6, 15, 18, 24, 33, 49, 56, 64, 73, 80, 88, 103, 110, 118, 125] 200 h
abbrev fk_m_likeNotes : List fw_CR := [(287, 4, true, 11, 2, sp_m_isLikeNote)]
abbrev st_m_likeNotes : fw_K → fw_KR → fw_K := fw_st vwCl nn_sh nn_kd fw_kv fw_wc (nn_KI20.map (fun x => x.1)) (nn_KJ20.map (fun x => x.1)) (nn_PF20.map (fun x => x.1)) (nn_PS20.map (fun x => x.1)) fk_m_likeNotes 3 nn_dt258 5 0
theorem fs_m_likeNotes_0 {G : fw_K} {R : fw_KR} (hG : fw_cls st_m_likeNotes R G) {x y w : Int} {σ : ab_SG} (h : G 3 [some (2, 93, 0), some (0, 0, x), some (0, 0, y), some (0, 0, w), some (0, 0, 0)] [] σ) : G 0 [some (2, 93, 0), some (0, 0, x), some (0, 0, y), some (0, 0, w), none] [] σ := fw_on hG [3, 19] 200 h
theorem fs_m_likeNotes_3 {G : fw_K} {R : fw_KR} (hG : fw_cls st_m_likeNotes R G) {a1 a2 a3 a4 : Int} {σ : ab_SG} (h : (fw_c 9 ≤ fw_c a4 → R (some (0, 0, a4)) σ) ∧ (fw_c a4 < fw_c 9 → sp_m_isLikeNote [(2, 93, 0), (0, 0, a1), (0, 0, a2), (0, 0, a4), (0, 0, a3)] σ (fun rv σ2 => G 19 [some (2, 93, 0), some (0, 0, a1), some (0, 0, a2), some (0, 0, a3), some (0, 0, a4)] (rv.toList ++ []) σ2))) : G 3 [some (2, 93, 0), some (0, 0, a1), some (0, 0, a2), some (0, 0, a3), some (0, 0, a4)] [] σ := fw_on hG [3, 19] 200 h
theorem fs_m_likeNotes_19 {G : fw_K} {R : fw_KR} (hG : fw_cls st_m_likeNotes R G) {a1 a2 a3 a4 b0 : Int} {σ : ab_SG} (h : (fw_c b0 = 0 → R (some (0, 0, a4)) σ) ∧ (fw_c b0 ≠ 0 → G 3 [some (2, 93, 0), some (0, 0, a1), some (0, 0, a2), some (0, 0, a3), some (0, 0, a4 + 1)] [] σ)) : G 19 [some (2, 93, 0), some (0, 0, a1), some (0, 0, a2), some (0, 0, a3), some (0, 0, a4)] [(0, 0, b0)] σ := fw_on hG [3, 19] 200 h
abbrev fk_m_areLike : List fw_CR := [(291, 3, true, 11, 3, sp_m_likeNotes)]
abbrev st_m_areLike : fw_K → fw_KR → fw_K := fw_st vwCl nn_sh nn_kd fw_kv fw_wc (nn_KI20.map (fun x => x.1)) (nn_KJ20.map (fun x => x.1)) (nn_PF20.map (fun x => x.1)) (nn_PS20.map (fun x => x.1)) fk_m_areLike 4 nn_dt257 5 1
theorem fs_m_areLike_0 {G : fw_K} {R : fw_KR} (hG : fw_cls st_m_areLike R G) {x y n w : Int} {σ : ab_SG} (h : sp_m_likeNotes [(2, 93, 0), (0, 0, x), (0, 0, y), (0, 0, w)] σ (fun rv σ2 => G 8 [some (2, 93, 0), some (0, 0, x), some (0, 0, y), some (0, 0, n), some (0, 0, w)] (rv.toList ++ []) σ2)) : G 0 [some (2, 93, 0), some (0, 0, x), some (0, 0, y), some (0, 0, n), some (0, 0, w)] [] σ := fw_on hG [8] 200 h
theorem fs_m_areLike_8 {G : fw_K} {R : fw_KR} (hG : fw_cls st_m_areLike R G) {a1 a2 a3 a4 b0 : Int} {σ : ab_SG} (h : (fw_c b0 < fw_c a3 → (0 ≤ fw_c 0 ∧ fw_c 0 ≤ 1) ∧ R (some (0, 0, 0)) σ) ∧ (fw_c a3 ≤ fw_c b0 → (0 ≤ fw_c 1 ∧ fw_c 1 ≤ 1) ∧ R (some (0, 0, 1)) σ)) : G 8 [some (2, 93, 0), some (0, 0, a1), some (0, 0, a2), some (0, 0, a3), some (0, 0, a4)] [(0, 0, b0)] σ := fw_on hG [8] 200 h
abbrev fk_m_likes : List fw_CR := [(216, 2, false, 0, 0, sp_m_has), (261, 0, true, 11, 0, sp_m_tunes), (294, 4, true, 11, 4, sp_m_areLike)]
abbrev st_m_likes : fw_K → fw_KR → fw_K := fw_st vwCl nn_sh nn_kd fw_kv fw_wc (nn_KI20.map (fun x => x.1)) (nn_KJ20.map (fun x => x.1)) (nn_PF20.map (fun x => x.1)) (nn_PS20.map (fun x => x.1)) fk_m_likes 5 nn_dt256 7 0
theorem fs_m_likes_0 {G : fw_K} {R : fw_KR} (hG : fw_cls st_m_likes R G) {x n w s : Int} {σ : ab_SG} (h : G 6 [some (2, 93, 0), some (0, 0, x), some (0, 0, n), some (0, 0, w), some (0, 0, s), some (0, 0, 0), some (0, 0, 0)] [] σ) : G 0 [some (2, 93, 0), some (0, 0, x), some (0, 0, n), some (0, 0, w), some (0, 0, s), none, none] [] σ := fw_on hG [6, 12, 22, 34, 46] 200 h
theorem fs_m_likes_6 {G : fw_K} {R : fw_KR} (hG : fw_cls st_m_likes R G) {a1 a2 a3 a4 a5 a6 : Int} {σ : ab_SG} (h : sp_m_tunes [(2, 93, 0)] σ (fun rv σ2 => G 12 [some (2, 93, 0), some (0, 0, a1), some (0, 0, a2), some (0, 0, a3), some (0, 0, a4), some (0, 0, a5), some (0, 0, a6)] (rv.toList ++ [(0, 0, a6)]) σ2)) : G 6 [some (2, 93, 0), some (0, 0, a1), some (0, 0, a2), some (0, 0, a3), some (0, 0, a4), some (0, 0, a5), some (0, 0, a6)] [] σ := fw_on hG [6, 12, 22, 34, 46] 200 h
theorem fs_m_likes_12 {G : fw_K} {R : fw_KR} (hG : fw_cls st_m_likes R G) {a1 a2 a3 a4 a5 a6 b0 b1 : Int} {σ : ab_SG} (h : (fw_c b0 ≤ fw_c b1 → R (some (0, 0, a5)) σ) ∧ (fw_c b1 < fw_c b0 → sp_m_has [(0, 0, a4), (0, 0, a6)] σ (fun rv σ2 => G 22 [some (2, 93, 0), some (0, 0, a1), some (0, 0, a2), some (0, 0, a3), some (0, 0, a4), some (0, 0, a5), some (0, 0, a6)] (rv.toList ++ []) σ2))) : G 12 [some (2, 93, 0), some (0, 0, a1), some (0, 0, a2), some (0, 0, a3), some (0, 0, a4), some (0, 0, a5), some (0, 0, a6)] [(0, 0, b0), (0, 0, b1)] σ := fw_on hG [6, 12, 22, 34, 46] 200 h
theorem fs_m_likes_22 {G : fw_K} {R : fw_KR} (hG : fw_cls st_m_likes R G) {a1 a2 a3 a4 a5 a6 b0 : Int} {σ : ab_SG} (h : (fw_c b0 = 0 → G 46 [some (2, 93, 0), some (0, 0, a1), some (0, 0, a2), some (0, 0, a3), some (0, 0, a4), some (0, 0, a5), some (0, 0, a6)] [] σ) ∧ (fw_c b0 ≠ 0 → sp_m_areLike [(2, 93, 0), (0, 0, a1), (0, 0, a6), (0, 0, a2), (0, 0, a3)] σ (fun rv σ2 => G 34 [some (2, 93, 0), some (0, 0, a1), some (0, 0, a2), some (0, 0, a3), some (0, 0, a4), some (0, 0, a5), some (0, 0, a6)] (rv.toList ++ []) σ2))) : G 22 [some (2, 93, 0), some (0, 0, a1), some (0, 0, a2), some (0, 0, a3), some (0, 0, a4), some (0, 0, a5), some (0, 0, a6)] [(0, 0, b0)] σ := fw_on hG [6, 12, 22, 34, 46] 200 h
theorem fs_m_likes_46 {G : fw_K} {R : fw_KR} (hG : fw_cls st_m_likes R G) {a1 a2 a3 a4 a5 a6 : Int} {σ : ab_SG} (h : G 6 [some (2, 93, 0), some (0, 0, a1), some (0, 0, a2), some (0, 0, a3), some (0, 0, a4), some (0, 0, a5), some (0, 0, a6 + 1)] [] σ) : G 46 [some (2, 93, 0), some (0, 0, a1), some (0, 0, a2), some (0, 0, a3), some (0, 0, a4), some (0, 0, a5), some (0, 0, a6)] [] σ := fw_on hG [6, 12, 22, 34, 46] 200 h
theorem fs_m_likes_34 {G : fw_K} {R : fw_KR} (hG : fw_cls st_m_likes R G) {a1 a2 a3 a4 a5 a6 b0 : Int} {σ : ab_SG} (h : (fw_c b0 = 0 → G 46 [some (2, 93, 0), some (0, 0, a1), some (0, 0, a2), some (0, 0, a3), some (0, 0, a4), some (0, 0, a5), some (0, 0, a6)] [] σ) ∧ (fw_c b0 ≠ 0 → G 46 [some (2, 93, 0), some (0, 0, a1), some (0, 0, a2), some (0, 0, a3), some (0, 0, a4), some (0, 0, fw_op 9 a5 (fw_op 5 1 a6)), some (0, 0, a6)] [] σ)) : G 34 [some (2, 93, 0), some (0, 0, a1), some (0, 0, a2), some (0, 0, a3), some (0, 0, a4), some (0, 0, a5), some (0, 0, a6)] [(0, 0, b0)] σ := fw_on hG [6, 12, 22, 34, 46] 200 h
section
variable {l : Launch} {cy : Nat → ClassId} {ad wr cr : Nat → Nat} {D : va_G}
theorem fm_sharedNotes3 (hinj : nn_inj ad) : fw_H l cy ad wr cr D 75 1 sp_sharedNotes3 := fw_mk hinj (⟨"NameNotes$Studio", "sharedNotes", "(III)I"⟩, prog_8_method_22_code, 4, (Option.some Jvm.ClassFile.FieldType.int), 3, true, 0) rfl rfl nn_KI6_ok nn_KJ6_ok nn_PF6_ok nn_PS6_ok (by decide +kernel) rfl rfl (List.forall_mem_cons.mpr ⟨fw_row nn_PM6_ok (x := 92) (k := 2) (mn := 29) (np := 2) (ob := false) (ci := 0) (⟨"NameNotes", "at", "([II)I"⟩, prog_1_method_84_code, 2, (Option.some Jvm.ClassFile.FieldType.int), 2, false, 0) rfl (by decide +kernel) rfl rfl (by decide) (fun q => by cases q) (fm_atn hinj), (List.forall_mem_cons.mpr ⟨fw_row nn_PM6_ok (x := 122) (k := 0) (mn := 42) (np := 3) (ob := false) (ci := 0) (⟨"NameNotes$Studio", "pair", "(III)I"⟩, prog_8_method_21_code, 3, (Option.some Jvm.ClassFile.FieldType.int), 3, false, 0) rfl (by decide +kernel) rfl rfl (by decide) (fun q => by cases q) (fm_pair hinj), (fun _ h => absurd h List.not_mem_nil)⟩)⟩) (fun as σ K h => by
  obtain ⟨A, x, y, w, rfl, hN, hx, hy, hw, h⟩ := h
  have n := N_n hN.1
  have e : fw_c (((w : Int) * 9 + (x : Int)) * 9 + (y : Int)) = (((w * 9 + x) * 9 + y : Nat) : Int) := by rw [fw_c_id (by omega) (by omega)]; omega
  refine ⟨rfl, fun G hG => fs_sharedNotes3_0 hG ⟨_, _, _, rfl, fs_sharedNotes3_10 hG ⟨(7, 324), by decide, _, rfl, fun _ => fs_sharedNotes3_13 hG ?_, fun z => absurd (by rw [e]; exact ⟨Int.natCast_nonneg _, by omega⟩) z⟩⟩⟩
  rw [e, Int.toNat_natCast, NC_sh hN hw hx hy]
  exact h)
theorem fm_likes3 (hinj : nn_inj ad) : fw_H l cy ad wr cr D 74 2 sp_likes3 := fw_mk hinj (⟨"NameNotes$Studio", "likes", "(IIII)I"⟩, prog_8_method_23_code, 7, (Option.some Jvm.ClassFile.FieldType.int), 4, true, 0) rfl rfl nn_KI6_ok nn_KJ6_ok nn_PF6_ok nn_PS6_ok (by decide +kernel) rfl rfl (List.forall_mem_cons.mpr ⟨fw_row nn_PM6_ok (x := 133) (k := 2) (mn := 34) (np := 2) (ob := false) (ci := 0) (⟨"NameNotes", "has", "(II)Z"⟩, prog_1_method_80_code, 2, (Option.some Jvm.ClassFile.FieldType.boolean), 2, false, 1) rfl (by decide +kernel) rfl rfl (by decide) (fun q => by cases q) (fm_has hinj), (List.forall_mem_cons.mpr ⟨fw_row nn_PM6_ok (x := 136) (k := 0) (mn := 75) (np := 3) (ob := true) (ci := 6) (⟨"NameNotes$Studio", "sharedNotes", "(III)I"⟩, prog_8_method_22_code, 4, (Option.some Jvm.ClassFile.FieldType.int), 3, true, 0) rfl (by decide +kernel) rfl rfl (by decide) (fun _ => ⟨_, _, rfl⟩) (fm_sharedNotes3 hinj), (fun _ h => absurd h List.not_mem_nil)⟩)⟩) (fun as σ K h => by
  obtain ⟨A, x, n, w, s, rfl, hN, hx, hn, hw, h⟩ := h
  have nn := N_n hN.1
  obtain ⟨N, eN⟩ := Int.eq_ofNat_of_zero_le nn.1.1
  rw [eN, Int.toNat_natCast] at h
  have eT : fw_c (σ 3 11) = (N : Int) := by rw [(NC_n hN).1, eN]; exact fw_s (by omega) (by omega)
  refine ⟨rfl, fun G hG => fs_likes3_0 hG ?_⟩
  have loop : ∀ (f y : Nat), y + f = N → G 6 [some (2, 3, 0), some (0, 0, (x : Int)), some (0, 0, n), some (0, 0, (w : Int)), some (0, 0, s), some (0, 0, v_lk A (x : Int) n (w : Int) s y), some (0, 0, (y : Int))] [] σ := by
    intro f
    induction f with
    | zero =>
      intro y hy
      have e : y = N := by omega
      subst e
      refine fs_likes3_6 hG ?_
      rw [eT, fw_s (x := (y : Int)) (by omega) (by omega)]
      exact ⟨fun _ => h, fun z => absurd z (Int.lt_irrefl _)⟩
    | succ f ih =>
      intro y hy
      have ey : fw_c (y : Int) = (y : Int) := fw_s (by omega) (by omega)
      have h9 := ih (y + 1) (by omega)
      rw [v_lk_s] at h9
      have hc := pr_cs_in (A := A) (x := (x : Int)) (y := (y : Int)) (w := (w : Int)) 9 0
      refine fs_likes3_6 hG ?_
      rw [eT, ey]
      refine ⟨fun z => absurd z (by omega), fun _ => ⟨s, (y : Int), rfl, by rw [ey]; omega, fs_likes3_22 hG ⟨fun z => fs_likes3_46 hG ?_, fun z => ⟨A, x, y, w, rfl, hN, hx, by omega, hw, fs_likes3_33 hG ?_⟩⟩⟩⟩
      · rw [if_neg (fun q => fw_bo_eq z (hs_t q.1))] at h9
        exact h9
      · rw [fw_s (x := n) (by omega) (by omega), fw_s (x := pr_cs A (x : Int) (y : Int) (w : Int) 9 0) (by omega) (by omega)]
        refine ⟨fun q => fs_likes3_46 hG ?_, fun q => fs_likes3_46 hG ?_⟩
        · rw [if_neg (fun q2 => absurd q2.2 (by omega))] at h9
          exact h9
        · rw [if_pos ⟨hs_of (fw_bo_ne z), q⟩] at h9
          exact h9
  exact loop N 0 (Nat.zero_add _))
theorem fm_m_isLikeNote (hinj : nn_inj ad) : fw_H l cy ad wr cr D 259 2 sp_m_isLikeNote := fw_mk hinj (⟨"NameNotesModel", "isLikeNote", "(IIII)Z"⟩, prog_14_method_57_code, 7, (Option.some Jvm.ClassFile.FieldType.boolean), 4, true, 1) rfl rfl nn_KI20_ok nn_KJ20_ok nn_PF20_ok nn_PS20_ok (by decide +kernel) rfl rfl (List.forall_mem_cons.mpr ⟨fw_row nn_PM20_ok (x := 270) (k := 0) (mn := 241) (np := 1) (ob := true) (ci := 11) (⟨"NameNotesModel", "notes", "(I)I"⟩, prog_14_method_45_code, 2, (Option.some Jvm.ClassFile.FieldType.int), 1, true, 0) rfl (by decide +kernel) rfl rfl (by decide) (fun _ => ⟨_, _, rfl⟩) (fm_m_notes hinj), (List.forall_mem_cons.mpr ⟨fw_row nn_PM20_ok (x := 273) (k := 0) (mn := 242) (np := 3) (ob := true) (ci := 11) (⟨"NameNotesModel", "noteOf", "(III)I"⟩, prog_14_method_46_code, 4, (Option.some Jvm.ClassFile.FieldType.int), 3, true, 0) rfl (by decide +kernel) rfl rfl (by decide) (fun _ => ⟨_, _, rfl⟩) (fm_m_noteOf hinj), (fun _ h => absurd h List.not_mem_nil)⟩)⟩) (fun as σ K h => by
  obtain ⟨A, x, y, i, w, rfl, hN, hx, hy, hi, hw, h⟩ := h
  obtain ⟨x9, x1, x2⟩ := N_sz hN.1 hN.2.1 hx
  obtain ⟨y9, y1, y2⟩ := N_sz hN.1 hN.2.1 hy
  have yes : pr_sn A (x : Int) (y : Int) (i : Int) (w : Int) → K (some (0, 0, 1)) σ := fun q => by
    rw [fw_bo_t q] at h
    exact h
  have no : ¬ pr_sn A (x : Int) (y : Int) (i : Int) (w : Int) → K (some (0, 0, 0)) σ := fun q => by
    rw [fw_bo_f q] at h
    exact h
  have ei : fw_c (i : Int) = (i : Int) := fw_s (by omega) (by omega)
  have zx : σ 95 (5 + 19 * x) = A 52 x := NM_sz hN hx
  have zy : σ 95 (5 + 19 * y) = A 52 y := NM_sz hN hy
  have cx : fw_c (A 52 x) = A 52 x := fw_s (by omega) (by omega)
  have cy : fw_c (A 52 y) = A 52 y := fw_s (by omega) (by omega)
  have e11 : 0 ≤ fw_c 1 ∧ fw_c 1 ≤ 1 := by rw [fw_c1]; decide
  refine ⟨rfl, fun G hG => fs_m_isLikeNote_0 hG ⟨x, rfl, x9, fs_m_isLikeNote_6 hG ?_⟩⟩
  have bad : ¬ ((i : Int) < A 52 x ∧ (i : Int) < A 52 y) → G 18 [some (2, 93, 0), some (0, 0, (x : Int)), some (0, 0, (y : Int)), some (0, 0, (i : Int)), some (0, 0, (w : Int)), none, none] [] σ := fun hb => by
    have sn := sn_no (w := w) hx hy hb
    refine fs_m_isLikeNote_18 hG ⟨x, rfl, x9, fs_m_isLikeNote_24 hG ?_⟩
    rw [zx, ei, cx]
    refine ⟨fun q => ⟨fw_01, no (fun z => hb ⟨q, (sn.mp z).mp q⟩)⟩, fun q => ⟨y, rfl, y9, fs_m_isLikeNote_33 hG ?_⟩⟩
    rw [zy, ei, cy]
    exact ⟨fun q2 => ⟨fw_01, no (fun z => hb ⟨(sn.mp z).mpr q2, q2⟩)⟩, fun q2 => ⟨e11, yes (sn.mpr ⟨fun a => absurd a (by omega), fun a => absurd a (by omega)⟩)⟩⟩
  rw [zx, ei, cx]
  refine ⟨fun q => bad (fun z => absurd z.1 (by omega)), fun qx => ⟨y, rfl, y9, fs_m_isLikeNote_15 hG ?_⟩⟩
  rw [zy, ei, cy]
  refine ⟨fun qy => ?_, fun q => bad (fun z => absurd z.2 (by omega))⟩
  have sn := sn_yes (w := w) hx hy qx qy
  have px := NM_nt hN hx qx
  have py := NM_nt hN hy qy
  have px0 := NM_nt hN hx (i := 0) (by omega)
  have py0 := NM_nt hN hy (i := 0) (by omega)
  have i0 : ∀ z j : Nat, 6 + 0 + 19 * z + 2 * j = 6 + 19 * z + 2 * j := fun z j => by omega
  have i1 : ∀ z j : Nat, 6 + 1 + 19 * z + 2 * j = 7 + 19 * z + 2 * j := fun z j => by omega
  refine ⟨x, i, 0, rfl, x9, hi, by decide, fs_m_isLikeNote_49 hG ⟨y, i, 0, rfl, y9, hi, by decide, fs_m_isLikeNote_56 hG ?_⟩⟩
  rw [i0, i0, px.1, py.1]
  -- both bits: P of the pitch, B of the length
  have rest : ∀ P : Int, (P = 0 ∨ P = 1) → (P = 1 ↔ fw_c (A 50 (x * 9 + i)) = fw_c (A 50 (y * 9 + i))) → G 64 [some (2, 93, 0), some (0, 0, (x : Int)), some (0, 0, (y : Int)), some (0, 0, (i : Int)), some (0, 0, (w : Int)), none, none] [(0, 0, P)] σ := by
    intro P hP eP
    have cP : fw_c P = P := fw_s (by omega) (by omega)
    have rest2 : ∀ B : Int, (B = 0 ∨ B = 1) → (B = 1 ↔ fw_c (A 51 (x * 9 + i)) = fw_c (A 51 (y * 9 + i))) → G 88 [some (2, 93, 0), some (0, 0, (x : Int)), some (0, 0, (y : Int)), some (0, 0, (i : Int)), some (0, 0, (w : Int)), some (0, 0, P), none] [(0, 0, B)] σ := by
      intro B hB eB
      have cB : fw_c B = B := fw_s (by omega) (by omega)
      refine fs_m_isLikeNote_88 hG ?_
      rw [fw_s (x := (w : Int)) (by omega) (by omega), fw_s (x := 3) (by decide) (by decide), fw_c1, cP, cB]
      refine ⟨fun w3 => ⟨fun w0 => ⟨fun w1 => ⟨by omega, ?_⟩, fun w1 => ⟨by omega, ?_⟩⟩, fun w0 => ⟨fun p0 => ⟨fw_01, ?_⟩, fun p0 => ⟨fun b0 => ⟨fw_01, ?_⟩, fun b0 => ⟨by decide, ?_⟩⟩⟩⟩, fun w3 => ?_⟩
      · rw [if_neg w3] at sn
        rcases hB with hB | hB
        · rw [hB]
          exact no (fun z => absurd (eB.mpr ((sn.mp z).2.resolve_left w1)) (by omega))
        · rw [hB]
          exact yes (sn.mpr ⟨Or.inl (by omega), Or.inr (eB.mp hB)⟩)
      · rw [if_neg w3] at sn
        rcases hP with hP | hP
        · rw [hP]
          exact no (fun z => absurd (eP.mpr ((sn.mp z).1.resolve_left (by omega))) (by omega))
        · rw [hP]
          exact yes (sn.mpr ⟨Or.inr (eP.mp hP), Or.inl w1⟩)
      · rw [if_neg w3] at sn
        exact no (fun z => absurd (eP.mpr ((sn.mp z).1.resolve_left (by omega))) (by omega))
      · rw [if_neg w3] at sn
        exact no (fun z => absurd (eB.mpr ((sn.mp z).2.resolve_left (by omega))) (by omega))
      · rw [if_neg w3] at sn
        exact yes (sn.mpr ⟨Or.inr (eP.mp (by omega)), Or.inr (eB.mp (by omega))⟩)
      · rw [if_pos w3] at sn
        refine ⟨x, i, 0, rfl, x9, hi, by decide, fs_m_isLikeNote_103 hG ⟨x, 0, 0, rfl, x9, by decide, by decide, fs_m_isLikeNote_110 hG ⟨y, i, 0, rfl, y9, hi, by decide, fs_m_isLikeNote_118 hG ⟨y, 0, 0, rfl, y9, by decide, by decide, fs_m_isLikeNote_125 hG ?_⟩⟩⟩⟩
        rw [i0, i0, i0, i0, px.1, py.1, px0.1, py0.1]
        exact ⟨fun z => ⟨fw_01, no (fun q => z (sn.mp q))⟩, fun z => ⟨e11, yes (sn.mpr z)⟩⟩
    refine fs_m_isLikeNote_64 hG ⟨x, i, 1, rfl, x9, hi, by decide, fs_m_isLikeNote_73 hG ⟨y, i, 1, rfl, y9, hi, by decide, fs_m_isLikeNote_80 hG ?_⟩⟩
    rw [i1, i1, px.2, py.2]
    exact ⟨fun z => rest2 0 (Or.inl rfl) ⟨fun a => absurd a (by decide), fun a => absurd a z⟩, fun z => rest2 1 (Or.inr rfl) ⟨fun _ => z, fun _ => rfl⟩⟩
  exact ⟨fun z => rest 0 (Or.inl rfl) ⟨fun a => absurd a (by decide), fun a => absurd a z⟩, fun z => rest 1 (Or.inr rfl) ⟨fun _ => z, fun _ => rfl⟩⟩)
theorem fm_m_likeNotes (hinj : nn_inj ad) : fw_H l cy ad wr cr D 258 3 sp_m_likeNotes := fw_mk hinj (⟨"NameNotesModel", "likeNotes", "(III)I"⟩, prog_14_method_58_code, 5, (Option.some Jvm.ClassFile.FieldType.int), 3, true, 0) rfl rfl nn_KI20_ok nn_KJ20_ok nn_PF20_ok nn_PS20_ok (by decide +kernel) rfl rfl (List.forall_mem_cons.mpr ⟨fw_row nn_PM20_ok (x := 287) (k := 0) (mn := 259) (np := 4) (ob := true) (ci := 11) (⟨"NameNotesModel", "isLikeNote", "(IIII)Z"⟩, prog_14_method_57_code, 7, (Option.some Jvm.ClassFile.FieldType.boolean), 4, true, 1) rfl (by decide +kernel) rfl rfl (by decide) (fun _ => ⟨_, _, rfl⟩) (fm_m_isLikeNote hinj), (fun _ h => absurd h List.not_mem_nil)⟩) (fun as σ K h => by
  obtain ⟨A, x, y, w, rfl, hN, hx, hy, hw, h⟩ := h
  refine ⟨rfl, fun G hG => fs_m_likeNotes_0 hG ?_⟩
  have loop : ∀ (f i : Nat), i + f = 9 → K (some (0, 0, pr_cs A (x : Int) (y : Int) (w : Int) f i)) σ → G 3 [some (2, 93, 0), some (0, 0, (x : Int)), some (0, 0, (y : Int)), some (0, 0, (w : Int)), some (0, 0, (i : Int))] [] σ := by
    intro f
    induction f with
    | zero =>
      intro i hi hk
      refine fs_m_likeNotes_3 hG ?_
      rw [fw_s (x := 9) (by decide) (by decide), fw_s (x := (i : Int)) (by omega) (by omega)]
      exact ⟨fun _ => hk, fun z => absurd z (by omega)⟩
    | succ f ih =>
      intro i hi hk
      rw [pr_cs_s] at hk
      refine fs_m_likeNotes_3 hG ?_
      rw [fw_s (x := 9) (by decide) (by decide), fw_s (x := (i : Int)) (by omega) (by omega)]
      refine ⟨fun z => absurd z (by omega), fun _ => ⟨A, x, y, i, w, rfl, hN, hx, hy, by omega, hw, fs_m_likeNotes_19 hG ⟨fun z => ?_, fun z => ?_⟩⟩⟩
      · rw [if_neg (fw_bo_eq z)] at hk
        exact hk
      · rw [if_pos (fw_bo_ne z)] at hk
        exact ih (i + 1) (by omega) hk
  exact loop 9 0 rfl h)
theorem fm_m_areLike (hinj : nn_inj ad) : fw_H l cy ad wr cr D 257 4 sp_m_areLike := fw_mk hinj (⟨"NameNotesModel", "areLike", "(IIII)Z"⟩, prog_14_method_59_code, 5, (Option.some Jvm.ClassFile.FieldType.boolean), 4, true, 1) rfl rfl nn_KI20_ok nn_KJ20_ok nn_PF20_ok nn_PS20_ok (by decide +kernel) rfl rfl (List.forall_mem_cons.mpr ⟨fw_row nn_PM20_ok (x := 291) (k := 0) (mn := 258) (np := 3) (ob := true) (ci := 11) (⟨"NameNotesModel", "likeNotes", "(III)I"⟩, prog_14_method_58_code, 5, (Option.some Jvm.ClassFile.FieldType.int), 3, true, 0) rfl (by decide +kernel) rfl rfl (by decide) (fun _ => ⟨_, _, rfl⟩) (fm_m_likeNotes hinj), (fun _ h => absurd h List.not_mem_nil)⟩) (fun as σ K h => by
  obtain ⟨A, x, y, n, w, rfl, hN, hx, hy, hn, hw, h⟩ := h
  have hc := pr_cs_in (A := A) (x := (x : Int)) (y := (y : Int)) (w := (w : Int)) 9 0
  refine ⟨rfl, fun G hG => fs_m_areLike_0 hG ⟨A, x, y, w, rfl, hN, hx, hy, hw, fs_m_areLike_8 hG ?_⟩⟩
  rw [fw_s (x := n) (by omega) (by omega), fw_s (x := pr_cs A (x : Int) (y : Int) (w : Int) 9 0) (by omega) (by omega)]
  refine ⟨fun q => ⟨fw_01, ?_⟩, fun q => ⟨by rw [fw_c1]; decide, ?_⟩⟩
  · rw [fw_bo_f (by omega)] at h
    exact h
  · rw [fw_bo_t q] at h
    exact h)
theorem fm_m_likes (hinj : nn_inj ad) : fw_H l cy ad wr cr D 256 5 sp_m_likes := fw_mk hinj (⟨"NameNotesModel", "likes", "(IIII)I"⟩, prog_14_method_60_code, 7, (Option.some Jvm.ClassFile.FieldType.int), 4, true, 0) rfl rfl nn_KI20_ok nn_KJ20_ok nn_PF20_ok nn_PS20_ok (by decide +kernel) rfl rfl (List.forall_mem_cons.mpr ⟨fw_row nn_PM20_ok (x := 216) (k := 0) (mn := 230) (np := 2) (ob := false) (ci := 0) (⟨"NameNotesModel", "has", "(II)Z"⟩, prog_14_method_9_code, 2, (Option.some Jvm.ClassFile.FieldType.boolean), 2, false, 1) rfl (by decide +kernel) rfl rfl (by decide) (fun q => by cases q) (fm_m_has hinj), (List.forall_mem_cons.mpr ⟨fw_row nn_PM20_ok (x := 261) (k := 0) (mn := 240) (np := 0) (ob := true) (ci := 11) (⟨"NameNotesModel", "tunes", "()I"⟩, prog_14_method_41_code, 1, (Option.some Jvm.ClassFile.FieldType.int), 0, true, 0) rfl (by decide +kernel) rfl rfl (by decide) (fun _ => ⟨_, _, rfl⟩) (fm_m_tunes hinj), (List.forall_mem_cons.mpr ⟨fw_row nn_PM20_ok (x := 294) (k := 0) (mn := 257) (np := 4) (ob := true) (ci := 11) (⟨"NameNotesModel", "areLike", "(IIII)Z"⟩, prog_14_method_59_code, 5, (Option.some Jvm.ClassFile.FieldType.boolean), 4, true, 1) rfl (by decide +kernel) rfl rfl (by decide) (fun _ => ⟨_, _, rfl⟩) (fm_m_areLike hinj), (fun _ h => absurd h List.not_mem_nil)⟩)⟩)⟩) (fun as σ K h => by
  obtain ⟨A, x, n, w, s, rfl, hN, hx, hn, hw, h⟩ := h
  have nn := N_n hN.1
  obtain ⟨N, eN⟩ := Int.eq_ofNat_of_zero_le nn.1.1
  rw [eN, Int.toNat_natCast] at h
  have eT : fw_c (σ 95 0) = (N : Int) := by rw [(NM_n hN).1, eN]; exact fw_s (by omega) (by omega)
  refine ⟨rfl, fun G hG => fs_m_likes_0 hG ?_⟩
  have loop : ∀ (f y : Nat), y + f = N → G 6 [some (2, 93, 0), some (0, 0, (x : Int)), some (0, 0, n), some (0, 0, (w : Int)), some (0, 0, s), some (0, 0, v_lk A (x : Int) n (w : Int) s y), some (0, 0, (y : Int))] [] σ := by
    intro f
    induction f with
    | zero =>
      intro y hy
      have e : y = N := by omega
      subst e
      refine fs_m_likes_6 hG ⟨rfl, fs_m_likes_12 hG ?_⟩
      rw [eT, fw_s (x := (y : Int)) (by omega) (by omega)]
      exact ⟨fun _ => h, fun z => absurd z (Int.lt_irrefl _)⟩
    | succ f ih =>
      intro y hy
      have h9 := ih (y + 1) (by omega)
      rw [v_lk_s] at h9
      refine fs_m_likes_6 hG ⟨rfl, fs_m_likes_12 hG ?_⟩
      rw [eT, fw_s (x := (y : Int)) (by omega) (by omega)]
      refine ⟨fun z => absurd z (by omega), fun _ => ⟨s, (y : Int), rfl, fs_m_likes_22 hG ⟨fun z => fs_m_likes_46 hG ?_, fun z => ⟨A, x, y, n, w, rfl, hN, hx, by omega, hn, hw, fs_m_likes_34 hG ⟨fun q => fs_m_likes_46 hG ?_, fun q => fs_m_likes_46 hG ?_⟩⟩⟩⟩⟩
      · rw [if_neg (fun q => fw_bo_eq z q.1)] at h9
        exact h9
      · rw [if_neg (fun q2 => fw_bo_eq q q2.2)] at h9
        exact h9
      · rw [if_pos ⟨fw_bo_ne z, fw_bo_ne q⟩] at h9
        exact h9
  exact loop N 0 (Nat.zero_add _))
end
end
section
/-! sets told by bits -/
theorem hs_tb0 : ∀ s : Nat, s < 256 → ∀ z : Nat, z < 9 → pr_hs (s : Int) (z : Int) = Nat.testBit s z := by decide +kernel
theorem hs_tb1 : ∀ s : Nat, s < 256 → ∀ z : Nat, z < 9 → pr_hs ((s + 256 : Nat) : Int) (z : Int) = Nat.testBit (s + 256) z := by decide +kernel
theorem hs_tb {s : Nat} (h5 : s < 512) {z : Nat} (hz : z < 9) : pr_hs (s : Int) (z : Int) = Nat.testBit s z := by
  by_cases h : s < 256
  · exact hs_tb0 s h z hz
  · have e := hs_tb1 (s - 256) (by omega) z hz
    rw [show s - 256 + 256 = s by omega] at e
    exact e
theorem hs_ov0 : ∀ s : Nat, s < 256 → ∀ y : Nat, y < 9 → fw_op 9 (s : Int) (fw_op 5 1 (y : Int)) = ((s ||| 2 ^ y : Nat) : Int) := by decide +kernel
theorem hs_ov1 : ∀ s : Nat, s < 256 → ∀ y : Nat, y < 9 → fw_op 9 ((s + 256 : Nat) : Int) (fw_op 5 1 (y : Int)) = (((s + 256) ||| 2 ^ y : Nat) : Int) := by decide +kernel
theorem hs_ov {s : Nat} (h5 : s < 512) {y : Nat} (hy : y < 9) : fw_op 9 (s : Int) (fw_op 5 1 (y : Int)) = ((s ||| 2 ^ y : Nat) : Int) := by
  by_cases h : s < 256
  · exact hs_ov0 s h y hy
  · have e := hs_ov1 (s - 256) (by omega) y hy
    rw [show s - 256 + 256 = s by omega] at e
    exact e
theorem hs_olt {u y : Nat} (h : u < 512) (hy : y < 9) : u ||| 2 ^ y < 512 := Nat.or_lt_two_pow (n := 9) h (Nat.pow_lt_pow_right (by decide) hy)
theorem hs_or {s : Int} (h0 : 0 ≤ s) (h5 : s < 512) {y z : Nat} (hy : y < 9) (hz : z < 9) : pr_hs (fw_op 9 s (fw_op 5 1 (y : Int))) (z : Int) = (pr_hs s (z : Int) || z.beq y) := by
  obtain ⟨u, rfl⟩ := Int.eq_ofNat_of_zero_le h0
  have hu : u < 512 := by omega
  rw [hs_ov hu hy, hs_tb (hs_olt hu hy) hz, hs_tb hu hz, Nat.testBit_or]
  congr 1
  by_cases q : y = z
  · rw [q, Nat.testBit_two_pow_self, Nat.beq_refl]
  · rw [Nat.testBit_two_pow_of_ne q]
    cases e : z.beq y with
    | false => rfl
    | true => exact absurd (Nat.eq_of_beq_eq_true e).symm q
theorem hs_ob {s : Int} (h0 : 0 ≤ s) (h5 : s < 512) {y : Nat} (hy : y < 9) : 0 ≤ fw_op 9 s (fw_op 5 1 (y : Int)) ∧ fw_op 9 s (fw_op 5 1 (y : Int)) < 512 := by
  obtain ⟨u, rfl⟩ := Int.eq_ofNat_of_zero_le h0
  have hu : u < 512 := by omega
  have := hs_olt hu hy
  rw [hs_ov hu hy]
  omega
theorem hs_p2 : ∀ t : Nat, t < 10 → p2_n (t : Int) = ((2 ^ t : Nat) : Int) := by decide +kernel
theorem hs_top {s : Int} (h0 : 0 ≤ s) (h5 : s < 512) {t z : Nat} (ht : t < 10) (hz : z < 9) (h1 : s < p2_n (t : Int)) (h2 : t ≤ z) : pr_hs s (z : Int) = false := by
  obtain ⟨u, rfl⟩ := Int.eq_ofNat_of_zero_le h0
  rw [hs_p2 t ht] at h1
  have h3 : 2 ^ t ≤ 2 ^ z := Nat.pow_le_pow_right (by decide) h2
  rw [hs_tb (by omega) hz]
  exact Nat.testBit_lt_two_pow (Nat.lt_of_lt_of_le (by omega) h3)
theorem hs_0 : ∀ z : Nat, z < 9 → pr_hs 0 (z : Int) = false := by decide +kernel
theorem v_lk_b (A : ab_SG) (x n w s : Int) : ∀ y : Nat, y ≤ 9 → 0 ≤ v_lk A x n w s y ∧ v_lk A x n w s y < 512
  | 0, _ => ⟨Int.le_refl 0, by show (0 : Int) < 512; decide⟩
  | y + 1, h => by
    have e := v_lk_b A x n w s y (by omega)
    rw [v_lk_s]
    split
    · exact hs_ob e.1 e.2 (by omega)
    · exact e
theorem v_lk_h (A : ab_SG) (x n w s : Int) {z : Nat} (hz : z < 9) : ∀ y : Nat, y ≤ 9 → (pr_hs (v_lk A x n w s y) (z : Int) = true ↔ z < y ∧ pr_hs s (z : Int) = true ∧ n ≤ pr_cs A x (z : Int) w 9 0)
  | 0, _ => by
    have e : pr_hs (v_lk A x n w s 0) (z : Int) = false := hs_0 z hz
    rw [e]
    exact ⟨fun q => Bool.noConfusion q, fun q => absurd q.1 (Nat.not_lt_zero _)⟩
  | y + 1, h => by
    have e := v_lk_h A x n w s hz y (by omega)
    have b := v_lk_b A x n w s y (by omega)
    rw [v_lk_s]
    by_cases c : pr_hs s (y : Int) = true ∧ n ≤ pr_cs A x (y : Int) w 9 0
    · rw [if_pos c, hs_or b.1 b.2 (by omega) hz, Bool.or_eq_true, e]
      constructor
      · rintro (q | q)
        · exact ⟨by omega, q.2⟩
        · have q2 := Nat.eq_of_beq_eq_true q
          rw [q2]
          exact ⟨by omega, c⟩
      · rintro ⟨q1, q2⟩
        by_cases zy : z = y
        · exact Or.inr (by rw [zy, Nat.beq_refl])
        · exact Or.inl ⟨by omega, q2⟩
    · rw [if_neg c, e]
      constructor
      · rintro ⟨q1, q2⟩
        exact ⟨by omega, q2⟩
      · rintro ⟨q1, q2⟩
        refine ⟨?_, q2⟩
        have : z ≠ y := fun zy => c (by rw [← zy]; exact q2)
        omega
theorem v_set_b {A : ab_SG} (hi : RI A) (hb : nb_is A) {c : Int} (h1 : -1 ≤ c) (h2 : c < A 49 12) : 0 ≤ v_set A c ∧ v_set A c < p2_n (A 49 11) := by
  have n := N_n hi
  unfold v_set
  by_cases q : c = -1
  · rw [if_pos q]
    have e : ∀ t : Nat, t < 10 → 1 ≤ p2_n (t : Int) := by decide
    have e2 := e (A 49 11).toNat (by omega)
    rw [show (((A 49 11).toNat : Nat) : Int) = A 49 11 by omega] at e2
    omega
  · rw [if_neg q]
    have e := hb.2.1 c.toNat (by omega)
    omega
theorem v_set_512 {A : ab_SG} (hi : RI A) (hb : nb_is A) {c : Int} (h1 : -1 ≤ c) (h2 : c < A 49 12) : 0 ≤ v_set A c ∧ v_set A c < 512 := by
  have n := N_n hi
  have e := v_set_b hi hb h1 h2
  have b := (p2_le (A 49 11).toNat (by omega)).1
  rw [show (((A 49 11).toNat : Nat) : Int) = A 49 11 by omega] at b
  omega
theorem v_set_top {A : ab_SG} (hi : RI A) (hb : nb_is A) {c : Int} (h1 : -1 ≤ c) (h2 : c < A 49 12) {z : Nat} (hz : z < 9) (h : pr_hs (v_set A c) (z : Int) = true) : (z : Int) < A 49 11 := by
  have n := N_n hi
  have e := v_set_b hi hb h1 h2
  have b := v_set_512 hi hb h1 h2
  by_cases q : (z : Int) < A 49 11
  · exact q
  · have t := hs_top b.1 b.2 (t := (A 49 11).toNat) (by omega) hz (by rw [show (((A 49 11).toNat : Nat) : Int) = A 49 11 by omega]; exact e.2) (by omega)
    rw [t] at h
    cases h
section
variable {l : Launch} {cy : Nat → ClassId} {ad wr cr : Nat → Nat} {D : va_G}
end
end
