theorem ab_sm_ext {ρ ρ' : Nat → Int} {n : Nat} (h : ∀ i, i < n → ρ' i = ρ i) : ∀ (l : List Nat), (∀ s ∈ l, s < n) → ab_sm ρ' l = ab_sm ρ l := by
  intro l
  induction l with
  | nil => intro _; rfl
  | cons s l ih =>
    intro hl
    show ρ' s + ab_sm ρ' l = ρ s + ab_sm ρ l
    rw [h s (hl s List.mem_cons_self), ih (fun t ht => hl t (List.mem_cons_of_mem _ ht))]
theorem ab_nv_ext {ρ ρ' : Nat → Int} {n : Nat} {e : ab_ME} (h : ∀ i, i < n → ρ' i = ρ i) (he : ab_sy3 n e) : ab_nv ρ' e = ab_nv ρ e := by
  unfold ab_nv ab_mev
  rw [ab_sm_ext h e.2.1 he.1, ab_sm_ext h e.2.2 he.2]
def ab_s33 (n : Nat) (a : ab_M3) : Prop := ab_sy3 n a.1 ∧ ab_sy3 n a.2.1 ∧ ab_sy3 n a.2.2
theorem ab_n3_ext {ρ ρ' : Nat → Int} {n : Nat} {a : ab_M3} (h : ∀ i, i < n → ρ' i = ρ i) (he : ab_s33 n a) : ab_n3 ρ' a = ab_n3 ρ a := by
  unfold ab_n3
  rw [ab_nv_ext h he.1, ab_nv_ext h he.2.1, ab_nv_ext h he.2.2]
theorem ab_sy3_mono {n n' : Nat} {e : ab_ME} (h : ab_sy3 n e) (hn : n ≤ n') : ab_sy3 n' e := ⟨fun s hs => Nat.lt_of_lt_of_le (h.1 s hs) hn, fun s hs => Nat.lt_of_lt_of_le (h.2 s hs) hn⟩
theorem ab_s33_mono {n n' : Nat} {a : ab_M3} (h : ab_s33 n a) (hn : n ≤ n') : ab_s33 n' a := ⟨ab_sy3_mono h.1 hn, ab_sy3_mono h.2.1 hn, ab_sy3_mono h.2.2 hn⟩
section
variable {p : Program} {l : Launch} {e : Env} {s : State} {m : MethodId} {args : Array Value} {below : List Frame} {meth : Method} {c : Code} {Q : State → Prop} {cc : ByteArray} {R : Room} {sc cells slots : Nat}
variable {ad wr cr : Nat → Nat} {cy : Nat → ClassId} {nL n0 lev : Nat} {T : ab_RG} {C : ab_CT} {σ0 : ab_SG} {ρ0 : Nat → Int} {own : String} {D : va_G} {cl : List vw_C} {sh : List ab_SP} {A : Nat → Prop} {H0 : Heap} {Ts TT : List Jvm.Cond} {NW : ab_NW} {MT : List ab_MR} {PM : ab_PC2} {KS : ab_KS} {KI KJ : List (Nat × Int)} {PF : ab_PT} {kd : ab_KD} {PS : ab_PS} {rk : Nat} {os : List ab_OU} {sp HD : List Nat} {dt : ab_DT} {HN : ab_HH} {EX NS : List ab_ND}
theorem ab_hit0_ok {X : ab_AS} {nd : ab_ND} {B1 : ab_BD} {θ : ab_TH} {ρ : Nat → Int} {σ : ab_SG} {H : Heap} {locs : List Loc} {ls : Array Slot} {st : List Value} (h : ab_hit0 T n0 X nd = some (B1, θ)) (hG : ab_Gm cy ad wr cr D cl sh T C nL n0 ρ0 σ0 A H0 X ρ σ H locs ls st) :
    ∃ ρ1 : Nat → Int, X.2.2.1.length ≤ B1.length ∧ (∀ i, i < X.2.2.1.length → ρ1 i = ρ i) ∧ (∀ q ∈ θ, q.1 < B1.length) ∧ ab_okB B1 ρ1 ∧ ab_okF B1.length X.2.2.2.1 ρ1 ∧ ab_Gm cy ad wr cr D cl sh T C nL n0 ρ0 σ0 A H0 nd.2.1 (ab_thv θ ρ1) σ H locs ls st := by
  obtain ⟨hK, hr0, hn0, hL, hS, hP, hSS⟩ := hG
  unfold ab_hit0 at h
  split at h
  · rename_i B8 D1 hmat
    obtain ⟨h1, h2⟩ := ab_cs h
    rw [Bool.and_eq_true] at h1
    cases h2
    obtain ⟨ρ1, m1, m2, m3⟩ := ab_mat_ok _ hK hmat
    obtain ⟨v1, v2⟩ := ab_vf_th m1.1 h1.1
    obtain ⟨vK, vL, vS⟩ := ab_vf_ok (ad := ad) (wr := wr) (cr := cr) (nL := nL) (ls := ls) h1.1 m1 (ab_okL_ext hL m2 m3) (ab_okS_ext hS m2 m3)
    obtain ⟨w1, w2⟩ := ab_rid_ok (ρ := ρ1) n0 0 _ h1.2
    refine ⟨ρ1, m2, m3, v1, m1.1, m1.2.1, vK, fun j hj => ?_, by rw [← v2]; exact w1, vL, vS, hP, hSS⟩
    rw [w2 j hj, Nat.zero_add, m3 j (Nat.lt_of_lt_of_le hj hn0), hr0 j hj]
  · cases h
theorem ab_run_ok {mu : ab_M3} {mv : Nat × Nat × Nat} {nS : Nat} (hE : ab_Ev p l s m args meth c cc nL lev R cy ad wr cr D cl sh T C own A H0 Ts TT NW MT KI KJ PF kd PS PM KS sc n0 ρ0 cells slots dt σ0)
    (hRT : ∀ (pc : Nat) (X : ab_AS) (ρ : Nat → Int) (σ : ab_SG) (H : Heap) (locs : List Loc) (ls : Array Slot) (st : List Value) (i : Instr) (len : Nat), decode cc pc = .ok (i, len) → ab_rt T n0 os rk i len X = true → ab_Gm cy ad wr cr D cl sh T C nL n0 ρ0 σ0 A H0 X ρ σ H locs ls st → W p l e R s m args below meth c H locs cells slots Q (F0 m pc ls st))
    (hEX : ∀ nd ∈ EX, ∀ (ρ : Nat → Int) (σ : ab_SG) (H : Heap) (locs : List Loc) (ls : Array Slot) (st : List Value), ab_Gm cy ad wr cr D cl sh T C nL n0 ρ0 σ0 A H0 nd.2.1 ρ σ H locs ls st → W p l e R s m args below meth c H locs cells slots Q (F0 m nd.1 ls st))
    (hN : ∀ nd ∈ NS, ∀ (ρ : Nat → Int) (σ : ab_SG) (H : Heap) (locs : List Loc) (ls : Array Slot) (st : List Value), ab_lt3 (ab_n3 ρ nd.2.2) mv → ab_Gm cy ad wr cr D cl sh T C nL n0 ρ0 σ0 A H0 nd.2.1 ρ σ H locs ls st → W p l e R s m args below meth c H locs cells slots Q (F0 m nd.1 ls st))
    (hmu : ab_s33 nS mu) : ∀ (f pc : Nat) (X : ab_AS), ab_run cl T C sh MT KI KJ PF kd PS PM KS lev sc dt nL n0 os rk sp HD HN EX NS mu f pc X = true → ∀ (ρ : Nat → Int) (σ : ab_SG) (H : Heap) (locs : List Loc) (ls : Array Slot) (st : List Value), nS ≤ X.2.2.1.length → ab_n3 ρ mu = mv → ab_Gm cy ad wr cr D cl sh T C nL n0 ρ0 σ0 A H0 X ρ σ H locs ls st → W p l e R s m args below meth c H locs cells slots Q (F0 m pc ls st) := by
  intro f
  induction f with
  | zero => intro pc X h; cases h
  | succ f ih =>
    intro pc X h ρ σ H locs ls st hnS hmv hG
    unfold ab_run at h
    cases hHD : HD.any (fun h => h.beq pc) with
    | false =>
      rw [hHD] at h
      replace h : (match ab_st cl T C sh MT KI KJ PF kd PS PM KS lev sc dt nL n0 os rk sp pc X with
        | some l => l.all (fun q => ab_run cl T C sh MT KI KJ PF kd PS PM KS lev sc dt nL n0 os rk sp HD HN EX NS mu f q.1 q.2)
        | none => false) = true := h
      split at h
      · rename_i l9 hl9
        refine ab_st_ok hE hl9 hG (fun i len hd hr => hRT pc X ρ σ H locs ls st i len hd hr hG) (fun q hq => ?_)
        intro ρ2 σ2 H' locs' ls' st' a1 a2 a3
        have hq2 := List.all_eq_true.mp h q hq
        refine ih q.1 q.2 hq2 ρ2 σ2 H' locs' ls' st' (Nat.le_trans hnS a1) ?_ a3
        rw [← hmv]
        exact ab_n3_ext (fun i hi => a2 i (Nat.lt_of_lt_of_le hi hnS)) hmu
      · cases h
    | true =>
    rw [hHD] at h
    rw [cond_true, Bool.or_eq_true, Bool.or_eq_true] at h
    rcases h with (h | h) | h
    · obtain ⟨nd, hnd, h⟩ := List.any_eq_true.mp h
      rw [Bool.and_eq_true] at h
      have hpc := ab_beq h.1
      have h := h.2
      unfold ab_hitE at h
      split at h
      · rename_i q9 hq9
        obtain ⟨ρ1, m2, m3, v1, b1, b2, g⟩ := ab_hit0_ok (B1 := q9.1) (θ := q9.2) hq9 hG
        rw [← hpc]
        exact hEX nd hnd _ σ H locs ls st g
      · cases h
    · obtain ⟨nd, hnd, h⟩ := List.any_eq_true.mp h
      rw [Bool.and_eq_true] at h
      have hpc := ab_beq h.1
      have h := h.2
      unfold ab_hit at h
      split at h
      · rename_i B1 θ9 hq9
        rw [Bool.and_eq_true, Bool.and_eq_true, Bool.and_eq_true] at h
        obtain ⟨⟨⟨h3, h4⟩, h5⟩, h6⟩ := h
        obtain ⟨ρ1, m2, m3, v1, k1, k2, g⟩ := ab_hit0_ok hq9 hG
        have b1 := ab_msb_ok (ρ := ρ1) v1 h3
        have b2 := ab_msb_ok (ρ := ρ1) v1 h4
        have b3 := ab_msb_ok (ρ := ρ1) v1 h5
        have hmu1 : ab_s33 B1.length mu := ab_s33_mono hmu (Nat.le_trans hnS m2)
        have hf := ab_fall_ok (ρ := ρ1) (a := (_, _, _)) (b := mu) k1 k2 ⟨b1.2, b2.2, b3.2⟩ hmu1 h6
        have e1 : ab_n3 ρ1 mu = mv := by
          rw [← hmv]
          exact ab_n3_ext (fun i hi => m3 i (Nat.lt_of_lt_of_le hi hnS)) hmu
        rw [e1] at hf
        rw [← hpc]
        refine hN nd hnd _ σ H locs ls st ?_ g
        have e2 : ab_n3 (ab_thv θ9 ρ1) nd.2.2 = ab_n3 ρ1 (ab_msb θ9 nd.2.2.1, ab_msb θ9 nd.2.2.2.1, ab_msb θ9 nd.2.2.2.2) := by
          unfold ab_n3 ab_nv
          rw [b1.1, b2.1, b3.1]
        rw [e2]
        exact hf
      · cases h
    · split at h
      · rename_i xs9 hxs
        obtain ⟨X', hX', ρ', σ', hlen, hag, hG'⟩ := ab_hx_ok hxs hG
        have h := List.all_eq_true.mp h X' hX'
        split at h
        · rename_i l9 hl9
          refine ab_st_ok hE hl9 hG' (fun i len hd hr => hRT pc X' ρ' σ' H locs ls st i len hd hr hG') (fun q hq => ?_)
          intro ρ2 σ2 H' locs' ls' st' a1 a2 a3
          have hq2 := List.all_eq_true.mp h q hq
          refine ih q.1 q.2 hq2 ρ2 σ2 H' locs' ls' st' (Nat.le_trans hnS (Nat.le_trans hlen a1)) ?_ a3
          rw [← hmv]
          exact ab_n3_ext (fun i hi => (a2 i (Nat.lt_of_lt_of_le (Nat.lt_of_lt_of_le hi hnS) hlen)).trans (hag i (Nat.lt_of_lt_of_le hi hnS))) hmu
        · cases h
      · cases h
/-- one node, the others met -/
theorem ab_cn_ok {fuel : Nat} {mv : Nat × Nat × Nat} (hE : ab_Ev p l s m args meth c cc nL lev R cy ad wr cr D cl sh T C own A H0 Ts TT NW MT KI KJ PF kd PS PM KS sc n0 ρ0 cells slots dt σ0)
    (hRT : ∀ (pc : Nat) (X : ab_AS) (ρ : Nat → Int) (σ : ab_SG) (H : Heap) (locs : List Loc) (ls : Array Slot) (st : List Value) (i : Instr) (len : Nat), decode cc pc = .ok (i, len) → ab_rt T n0 os rk i len X = true → ab_Gm cy ad wr cr D cl sh T C nL n0 ρ0 σ0 A H0 X ρ σ H locs ls st → W p l e R s m args below meth c H locs cells slots Q (F0 m pc ls st))
    (hEX : ∀ nd ∈ EX, ∀ (ρ : Nat → Int) (σ : ab_SG) (H : Heap) (locs : List Loc) (ls : Array Slot) (st : List Value), ab_Gm cy ad wr cr D cl sh T C nL n0 ρ0 σ0 A H0 nd.2.1 ρ σ H locs ls st → W p l e R s m args below meth c H locs cells slots Q (F0 m nd.1 ls st))
    (hN : ∀ nd ∈ NS, ∀ (ρ : Nat → Int) (σ : ab_SG) (H : Heap) (locs : List Loc) (ls : Array Slot) (st : List Value), ab_lt3 (ab_n3 ρ nd.2.2) mv → ab_Gm cy ad wr cr D cl sh T C nL n0 ρ0 σ0 A H0 nd.2.1 ρ σ H locs ls st → W p l e R s m args below meth c H locs cells slots Q (F0 m nd.1 ls st))
    {nd : ab_ND} (h : ab_cn cl T C sh MT KI KJ PF kd PS PM KS lev sc dt nL n0 os rk sp HD HN EX NS fuel nd = true) : ∀ (ρ : Nat → Int) (σ : ab_SG) (H : Heap) (locs : List Loc) (ls : Array Slot) (st : List Value), ab_n3 ρ nd.2.2 = mv → ab_Gm cy ad wr cr D cl sh T C nL n0 ρ0 σ0 A H0 nd.2.1 ρ σ H locs ls st → W p l e R s m args below meth c H locs cells slots Q (F0 m nd.1 ls st) := by
  intro ρ σ H locs ls st hx hG
  unfold ab_cn at h
  rw [Bool.and_eq_true, Bool.and_eq_true, Bool.and_eq_true] at h
  obtain ⟨⟨⟨h1, h2⟩, h3⟩, h⟩ := h
  have hmu : ab_s33 nd.2.1.2.2.1.length nd.2.2 := ⟨ab_mok_ok h1, ab_mok_ok h2, ab_mok_ok h3⟩
  split at h
  · rename_i xs9 hxs
    obtain ⟨X', hX', ρ', σ', hlen, hag, hG'⟩ := ab_hx_ok hxs hG
    have h := List.all_eq_true.mp h X' hX'
    split at h
    · rename_i l9 hl9
      refine ab_st_ok hE hl9 hG' (fun i len hd hr => hRT nd.1 X' ρ' σ' H locs ls st i len hd hr hG') (fun q hq => ?_)
      intro ρ2 σ2 H' locs' ls' st' a1 a2 a3
      have hq2 := List.all_eq_true.mp h q hq
      have hag2 : ∀ i, i < nd.2.1.2.2.1.length → ρ2 i = ρ i := fun i hi => (a2 i (Nat.lt_of_lt_of_le hi hlen)).trans (hag i hi)
      exact ab_run_ok hE hRT hEX hN hmu fuel q.1 q.2 hq2 ρ2 σ2 H' locs' ls' st' (Nat.le_trans hlen a1) ((ab_n3_ext hag2 hmu).trans hx) a3
    · cases h
  · cases h
theorem ab_nodes_ok {fuel : Nat} (hE : ab_Ev p l s m args meth c cc nL lev R cy ad wr cr D cl sh T C own A H0 Ts TT NW MT KI KJ PF kd PS PM KS sc n0 ρ0 cells slots dt σ0)
    (hRT : ∀ (pc : Nat) (X : ab_AS) (ρ : Nat → Int) (σ : ab_SG) (H : Heap) (locs : List Loc) (ls : Array Slot) (st : List Value) (i : Instr) (len : Nat), decode cc pc = .ok (i, len) → ab_rt T n0 os rk i len X = true → ab_Gm cy ad wr cr D cl sh T C nL n0 ρ0 σ0 A H0 X ρ σ H locs ls st → W p l e R s m args below meth c H locs cells slots Q (F0 m pc ls st))
    (hEX : ∀ nd ∈ EX, ∀ (ρ : Nat → Int) (σ : ab_SG) (H : Heap) (locs : List Loc) (ls : Array Slot) (st : List Value), ab_Gm cy ad wr cr D cl sh T C nL n0 ρ0 σ0 A H0 nd.2.1 ρ σ H locs ls st → W p l e R s m args below meth c H locs cells slots Q (F0 m nd.1 ls st))
    (hC : ∀ nd ∈ NS, ab_cn cl T C sh MT KI KJ PF kd PS PM KS lev sc dt nL n0 os rk sp HD HN EX NS fuel nd = true) : ∀ nd ∈ NS, ∀ (ρ : Nat → Int) (σ : ab_SG) (H : Heap) (locs : List Loc) (ls : Array Slot) (st : List Value), ab_Gm cy ad wr cr D cl sh T C nL n0 ρ0 σ0 A H0 nd.2.1 ρ σ H locs ls st → W p l e R s m args below meth c H locs cells slots Q (F0 m nd.1 ls st) := by
  have key : ∀ x : Nat × Nat × Nat, ∀ nd ∈ NS, ∀ (ρ : Nat → Int) (σ : ab_SG) (H : Heap) (locs : List Loc) (ls : Array Slot) (st : List Value), ab_n3 ρ nd.2.2 = x → ab_Gm cy ad wr cr D cl sh T C nL n0 ρ0 σ0 A H0 nd.2.1 ρ σ H locs ls st → W p l e R s m args below meth c H locs cells slots Q (F0 m nd.1 ls st) := by
    refine ab_lt3_ind (fun x ih => ?_)
    intro nd hnd ρ σ H locs ls st hx hG
    exact ab_cn_ok hE hRT hEX (fun nd2 hnd2 ρ2 σ2 H2 locs2 ls2 st2 hlt hG2 => ih _ hlt nd2 hnd2 ρ2 σ2 H2 locs2 ls2 st2 rfl hG2) (hC nd hnd) ρ σ H locs ls st hx hG
  exact fun nd hnd ρ σ H locs ls st hG => key _ nd hnd ρ σ H locs ls st rfl hG
end
/-- the locals at a method's entry -/
def ab_en0 : Nat → List ab_AV → ab_LS
  | _, [] => []
  | i, a :: as => (i, a) :: ab_en0 (cond (a.1.beq 1) (i + 2) (i + 1)) as
theorem ab_en0_map {ad wr cr : Nat → Nat} {ρ : Nat → Int} : ∀ (as : List ab_AV) (i : Nat), lv_args i (as.map (ab_V ad wr cr ρ)) = (ab_en0 i as).map (fun q => (q.1, ab_V ad wr cr ρ q.2)) := by
  intro as
  induction as with
  | nil => intro i; rfl
  | cons a as ih =>
    intro i
    have e : (if (ab_V ad wr cr ρ a).category = 2 then i + 2 else i + 1) = cond (a.1.beq 1) (i + 2) (i + 1) := by
      cases hc : a.1.beq 1 with
      | false => rw [ab_V_cat1 hc]; rfl
      | true =>
        obtain ⟨t, s, c⟩ := a
        have := ab_beq hc
        subst this
        rfl
    show (i, ab_V ad wr cr ρ a) :: lv_args (if (ab_V ad wr cr ρ a).category = 2 then i + 2 else i + 1) (as.map (ab_V ad wr cr ρ)) = _
    rw [e, ih]
    rfl
theorem ab_en0_sy {n : Nat} : ∀ (as : List ab_AV) (i : Nat), (∀ a ∈ as, ab_sy n a) → ∀ q ∈ ab_en0 i as, ab_sy n q.2 := by
  intro as
  induction as with
  | nil => intro i _ q hq; cases hq
  | cons a as ih =>
    intro i h q hq
    rcases List.mem_cons.mp hq with rfl | hq
    · exact h a List.mem_cons_self
    · exact ih _ (fun b hb => h b (List.mem_cons_of_mem _ hb)) q hq
theorem ab_sl_len : ∀ (vs : List Value), (lg_sl vs).length = (vs.map (fun v => v.category)).sum ∨ ∃ v ∈ vs, v.category ≠ 1 ∧ v.category ≠ 2 := by
  intro vs
  induction vs with
  | nil => exact Or.inl rfl
  | cons v vs ih =>
    rcases ih with ih | ⟨w, h1, h2⟩
    · by_cases h : v.category = 2
      · refine Or.inl ?_
        unfold lg_sl at ih ⊢
        rw [List.flatMap_cons, List.length_append, ih, if_pos h, List.map_cons, List.sum_cons, h]
        rfl
      · by_cases h1 : v.category = 1
        · refine Or.inl ?_
          unfold lg_sl at ih ⊢
          rw [List.flatMap_cons, List.length_append, ih, if_neg h, List.map_cons, List.sum_cons, h1]
          rfl
        · exact Or.inr ⟨v, List.mem_cons_self, h1, h⟩
    · exact Or.inr ⟨w, List.mem_cons_of_mem _ h1, h2⟩
theorem ab_V_c12 {ad wr cr : Nat → Nat} {ρ : Nat → Int} (a : ab_AV) : (ab_V ad wr cr ρ a).category = 1 ∨ (ab_V ad wr cr ρ a).category = 2 := by
  cases hc : a.1.beq 1 with
  | false => exact Or.inl (ab_V_cat1 hc)
  | true =>
    obtain ⟨t, s, c⟩ := a
    have := ab_beq hc
    subst this
    exact Or.inr rfl
theorem ab_fit_len {ad wr cr : Nat → Nat} {ρ : Nat → Int} {as : List ab_AV} {n : Nat} (h : (ab_cat as).ble n = true) : (lg_sl (as.map (ab_V ad wr cr ρ))).length ≤ n := by
  have h1 := Nat.le_of_ble_eq_true h
  unfold ab_cat at h1
  rw [ab_cat_ok (ad := ad) (wr := wr) (cr := cr) (ρ := ρ) as 0] at h1
  rcases ab_sl_len (as.map (ab_V ad wr cr ρ)) with g | ⟨v, g1, g2⟩
  · omega
  · obtain ⟨a, -, rfl⟩ := List.mem_map.mp g1
    rcases ab_V_c12 (ad := ad) (wr := wr) (cr := cr) (ρ := ρ) a with g3 | g3
    · exact absurd g3 g2.1
    · exact absurd g3 g2.2
theorem ab_WD_D {cy : Nat → ClassId} {ad wr : Nat → Nat} {sh : List ab_SP} {A : Nat → Prop} (hinj : ∀ i j, i < sh.length → j < sh.length → ad i = ad j → i = j) (hA : ∀ k, k < sh.length → A (ad k)) (σ : ab_SG) : va_D A (ab_WD cy ad wr sh σ) := by
  refine ⟨fun i j p q hi hj hpq => ?_, fun k q hk => ?_⟩
  · obtain ⟨s1, g1, rfl⟩ := ab_WD_at hi
    obtain ⟨s2, g2, rfl⟩ := ab_WD_at hj
    exact hinj i j (List.getElem?_eq_some_iff.mp g1).1 (List.getElem?_eq_some_iff.mp g2).1 hpq
  · obtain ⟨s1, g1, rfl⟩ := ab_WD_at hk
    exact hA k (List.getElem?_eq_some_iff.mp g1).1
theorem ab_fok_mono {cl : List vw_C} {Ts Ts' : List Jvm.Cond} {own : String} {q : Nat × Nat × Nat × Nat} (h : ab_fok cl Ts own q) (hs : ∀ w ∈ Ts, w ∈ Ts') : ab_fok cl Ts' own q := by
  obtain ⟨C, T, N, h1, h2, h3, h4, h5⟩ := h
  exact ⟨C, T, N, h1, h2, fun w hw => hs w (h3 w hw), hs _ h4, h5⟩
theorem ab_mlk_mono {MT : List ab_MR} {Ts Ts' : List Jvm.Cond} {NW : ab_NW} {own : String} {q : Nat × Nat × Nat} (h : ab_mlk MT Ts NW own q) (hs : ∀ w ∈ Ts, w ∈ Ts') : ab_mlk MT Ts' NW own q := by
  intro mr hmr
  obtain ⟨h1, h2, h3, h4, h5, h6, h7⟩ := h mr hmr
  refine ⟨hs _ h1, hs _ h2, h3, h4, fun g => ⟨hs _ (h5 g).1, hs _ (h5 g).2⟩, fun g => hs _ (h6 g), ?_⟩
  rcases h7 with ⟨g1, g2⟩ | g
  · exact Or.inl ⟨g1, hs _ g2⟩
  · exact Or.inr g
theorem ab_psok_mono {Ts Ts' : List Jvm.Cond} {kd : ab_KD} {own : String} {q : Nat × Nat} (h : ab_psok Ts kd own q) (hs : ∀ w ∈ Ts, w ∈ Ts') : ab_psok Ts' kd own q := by
  have mm : ∀ {y : MethodName} {code : ByteArray} {n : Nat} {r : FieldType}, ab_mw Ts own q.1 y code n r → ab_mw Ts' own q.1 y code n r := fun g => ⟨hs _ g.1, hs _ g.2.1, hs _ g.2.2.1, hs _ g.2.2.2⟩
  rcases h with ⟨h1, h2⟩ | ⟨h1, x, h2, h3⟩ | ⟨h1, h2⟩ | ⟨h1, h2⟩ | ⟨h1, h2⟩ | h1
  · exact Or.inl ⟨h1, hs _ h2⟩
  · refine Or.inr (Or.inl ⟨h1, x, h2, ?_⟩)
    rcases h3 with h3 | h3
    · exact Or.inl (hs _ h3)
    · exact Or.inr h3
  · exact Or.inr (Or.inr (Or.inl ⟨h1, mm h2⟩))
  · exact Or.inr (Or.inr (Or.inr (Or.inl ⟨h1, mm h2⟩)))
  · exact Or.inr (Or.inr (Or.inr (Or.inr (Or.inl ⟨h1, mm h2⟩))))
  · exact Or.inr (Or.inr (Or.inr (Or.inr (Or.inr h1))))
/-- a method's body out of its nodes, from the entry on -/
theorem ab_entry {p : Program} {l : Launch} {e : Env} {s : State} {m : MethodId} {below : List Frame} {meth : Method} {c : Code} {Q : State → Prop} {cc : ByteArray} {R : Room} {sc cells slots : Nat} {ad wr cr : Nat → Nat} {cy : Nat → ClassId} {nL lev : Nat} {T : ab_RG} {C : ab_CT} {σ : ab_SG} {ρ : Nat → Int} {own : String} {D : va_G} {cl : List vw_C} {sh : List ab_SP} {A : Nat → Prop} {Ts TT : List Jvm.Cond} {NW : ab_NW} {MT : List ab_MR} {PM : ab_PC2} {KS : ab_KS} {KI KJ : List (Nat × Int)} {PF : ab_PT} {kd : ab_KD} {PS : ab_PS} {rk : Nat} {os : List ab_OU} {sp HD : List Nat} {dt : ab_DT} {HN : ab_HH} {EX NS : List ab_ND} {fuel : Nat} {mu : ab_M3} {as : List ab_AV} {B0 : ab_BD} {F0' : ab_FT} {D0 : ab_DL}
    (hE : ab_Ev p l s m (as.map (ab_V ad wr cr ρ)).toArray meth c cc nL lev R cy ad wr cr D cl sh T C own A s.heap Ts TT NW MT KI KJ PF kd PS PM KS sc B0.length ρ cells slots dt σ)
    (hfit : (ab_cat as).ble nL = true) (hK : ab_K T C σ B0 F0' D0 [] ρ σ) (hsy : ∀ a ∈ as, ab_sy B0.length a) (hP : va_P D cl (ab_WD cy ad wr sh σ) s.heap)
    (hent : ((0, (ab_en0 0 as, [], B0, F0', D0, []), mu) : ab_ND) ∈ NS)
    (hRT : ∀ (pc : Nat) (X : ab_AS) (ρ2 : Nat → Int) (σ2 : ab_SG) (H : Heap) (locs : List Loc) (ls : Array Slot) (st : List Value) (i : Instr) (len : Nat), decode cc pc = .ok (i, len) → ab_rt T B0.length os rk i len X = true → ab_Gm cy ad wr cr D cl sh T C nL B0.length ρ σ A s.heap X ρ2 σ2 H locs ls st → W p l e R s m (as.map (ab_V ad wr cr ρ)).toArray below meth c H locs cells slots Q (F0 m pc ls st))
    (hEX : ∀ nd ∈ EX, ∀ (ρ2 : Nat → Int) (σ2 : ab_SG) (H : Heap) (locs : List Loc) (ls : Array Slot) (st : List Value), ab_Gm cy ad wr cr D cl sh T C nL B0.length ρ σ A s.heap nd.2.1 ρ2 σ2 H locs ls st → W p l e R s m (as.map (ab_V ad wr cr ρ)).toArray below meth c H locs cells slots Q (F0 m nd.1 ls st))
    (hC : ∀ nd ∈ NS, ab_cn cl T C sh MT KI KJ PF kd PS PM KS lev sc dt nL B0.length os rk sp HD HN EX NS fuel nd = true) :
    W p l e R s m (as.map (ab_V ad wr cr ρ)).toArray below meth c s.heap [] cells slots Q (entryFrame m (as.map (ab_V ad wr cr ρ)).toArray nL) := by
  have hl := lv_entry (as.map (ab_V ad wr cr ρ)) (n := nL) (ab_fit_len hfit)
  rw [lg_entry_eq]
  generalize (lg_sl (as.map (ab_V ad wr cr ρ)) ++ List.replicate (nL - (lg_sl (as.map (ab_V ad wr cr ρ))).length) Slot.unset).toArray = ls at hl ⊢
  rw [ab_en0_map] at hl
  exact ab_nodes_ok (σ0 := σ) (ρ0 := ρ) hE hRT hEX hC _ hent ρ σ s.heap [] ls [] ⟨hK, fun _ _ => rfl, Nat.le_refl _, ⟨hl, ab_en0_sy _ _ hsy⟩, ⟨rfl, fun a ha => by cases ha⟩, hP, va_S.rf⟩
/-- a contract out of its nodes -/
theorem ab_met {l : Launch} {cy : Nat → ClassId} {ad wr cr : Nat → Nat} {D : va_G} {cl : List vw_C} {sh : List ab_SP} {T : ab_RG} {C : ab_CT} {NW : ab_NW} {TT : List Jvm.Cond} {MT : List ab_MR} {KI KJ : List (Nat × Int)} {PF : ab_PT} {kd : ab_KD} {PS : ab_PS} {PM : ab_PC2} {KS : ab_KS} {lev rk : Nat} {sp HD : List Nat} {dt : ab_DT} {HN : ab_HH} {NS : List ab_ND} {fuel : Nat} {own : String} {mu : ab_M3}
    (mr : ab_MR) (ct : ab_CN)
    (hinj : ∀ i j, i < sh.length → j < sh.length → ad i = ad j → i = j) (hTT : ∀ w ∈ TT, goodWord w = true) (hcode : ∀ mr ∈ MT, goodWord (Jvm.Cond.code mr.1 mr.2.1 mr.2.2.1 mr.2.2.2.1) = true)
    (hKI : ∀ q ∈ KI, Jvm.Cond.constant own q.1 (Int32.ofInt q.2) ∈ TT) (hKJ : ∀ q ∈ KJ, Jvm.Cond.constantLong own q.1 (Int64.ofInt q.2) ∈ TT) (hPF : ∀ q ∈ PF, ab_fok cl TT own q) (hPS : ∀ q ∈ PS, ab_psok TT kd own q) (hPM : ∀ q ∈ PM, ab_mlk MT TT NW own q)
    (hy : plainName mr.1.cls = true) (hown : mr.1.cls = own) (hrk : ab_rkok rk mr.2.2.2.1)
    (hKS : ∀ q ∈ KS, ab_hold l cy ad wr cr D cl sh T C NW kd TT MT q)
    (hfit : (ab_cat ct.1).ble mr.2.2.1 = true)
    (hent : ((0, (ab_en0 0 ct.1, [], ct.2.1, ct.2.2.1, ct.2.2.2.1, []), mu) : ab_ND) ∈ NS)
    (hC : ∀ nd ∈ NS, ab_cn cl T C sh MT KI KJ PF kd PS PM KS lev 0 dt mr.2.2.1 ct.2.1.length ct.2.2.2.2 rk sp HD HN [] NS fuel nd = true) (hdt : ab_dtok mr.2.1 dt = true) :
    ∀ (ρ : Nat → Int) (σ : ab_SG) (sz : Nat), ab_K T C σ ct.2.1 ct.2.2.1 ct.2.2.2.1 [] ρ σ → (∀ a ∈ ct.1, ab_sy ct.2.1.length a) →
      Met l mr.1 (Jvm.Cond.code mr.1 mr.2.1 mr.2.2.1 mr.2.2.2.1 :: TT) (ab_room lev) (ab_PC cy ad wr cr D cl sh NW kd σ (ct.1.map (ab_V ad wr cr ρ)) sz) (ab_QC cy ad wr cr D cl sh T C ct.2.1.length ρ σ ct.2.2.2.2 (ab_A ad sh.length sz)) 0 0 (ab_A ad sh.length sz) := by
  intro ρ σ sz hK hsy
  refine Met.ofW (cc := mr.2.1) (maxL := mr.2.2.1) (ret := mr.2.2.2.1) hy rfl ?_
  intro p e s m args below meth c s₁ B hml hv
  obtain ⟨rfl, hsz, hP, hKK, hN, hCB⟩ := hv
  have hts := atoms_spec (ws := Jvm.Cond.code mr.1 mr.2.1 mr.2.2.1 mr.2.2.2.1 :: TT) B.pre
  have hown2 : s.vm.findClass own = some m.cls := by rw [← hown]; exact findClass_of_methodNamed B.named
  subst hsz
  have hA : ∀ k, k < sh.length → ab_A ad sh.length s.heap.size (ad k) := fun k hk => Or.inl ⟨k, hk, rfl⟩
  have hsub : ∀ w ∈ TT, w ∈ (Jvm.Cond.code mr.1 mr.2.1 mr.2.2.1 mr.2.2.2.1 :: TT) := fun w hw => List.mem_cons_of_mem _ hw
  have hE : ab_Ev p l s m (ct.1.map (ab_V ad wr cr ρ)).toArray meth c mr.2.1 mr.2.2.1 lev (headSpec (Jvm.Cond.code mr.1 mr.2.1 mr.2.2.1 mr.2.2.2.1 :: TT) (ab_room lev)).room cy ad wr cr D cl sh T C own (ab_A ad sh.length s.heap.size) s.heap (Jvm.Cond.code mr.1 mr.2.1 mr.2.2.1 mr.2.2.2.1 :: TT) TT NW MT KI KJ PF kd PS PM KS 0 ct.2.1.length ρ 0 0 dt σ :=
    ⟨B.exec, B.bytes, hml, hown2, hts, hKK, hN, fun w hw => ⟨hsub w hw, hTT w hw⟩, hcode, hA, fun q hq => Or.inr hq, fun q hq => ab_mlk_mono (hPM q hq) hsub, hKS, ⟨Nat.le_refl _, Nat.le_refl _⟩, fun q hq => hts _ (hsub _ (hKI q hq)), fun q hq => hts _ (hsub _ (hKJ q hq)), fun q hq => ab_fok_mono (hPF q hq) hsub, ab_WD_D hinj hA, hCB, rfl, fun q hq => ab_psok_mono (hPS q hq) hsub, ⟨Nat.zero_le _, Nat.zero_le _⟩, (fun q => by cases q), hdt⟩
  exact ab_entry hE hfit hK hsy hP hent (fun pc X ρ2 σ2 H locs ls2 st i len hd hr hG => ab_rt_ok B.exec B.bytes B.returns hrk B.notSynchronized hr hd hG) (fun nd hnd => by cases hnd) hC
