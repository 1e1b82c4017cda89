section
variable {p : Program} {l : Launch} {e : Env} {s : State} {m : MethodId} {args : Array Value} {below : List Frame} {meth : Method} {c : Code} {H : Heap} {locs : List Loc} {Q : State → Prop} {cc : ByteArray} {pc : Nat} {ls : Array Slot} {st : List Value} {R : Room}
variable {ad wr cr : Nat → Nat} {cy : Nat → ClassId} {nL n0 lev : Nat} {T : ab_RG} {C : ab_CT} {σ0 : ab_SG} {ρ0 : Nat → Int} {own : String} {i : Instr} {len : Nat} {D : va_G} {cl : List vw_C} {sh : List ab_SP} {A : Nat → Prop} {H0 : Heap} {Ts TT : List Jvm.Cond} {NW : ab_NW} {MT : List ab_MR} {PM : ab_PC2} {KS : ab_KS} {X : ab_AS} {KI KJ : List (Nat × Int)} {PF : ab_PT} {kd : ab_KD} {PS : ab_PS}
/-- the form of an answer goes with its type -/
def ab_rkok (rk : Nat) (ret : Option FieldType) : Prop := match rk with
  | 0 => ret = some .int
  | 1 => ret = some .boolean
  | 2 => ret = some .long
  | 3 => ∃ n, ret = some (.object n)
  | _ => ret = none
set_option maxHeartbeats 4000000 in
theorem ab_rt_ok {rk : Nat} {os : List ab_OU} {ret : Option FieldType} {sp : List Nat} (hsp : sp.all (fun x => x.ble 99999) = true) {cells slots : Nat} (hx : p.tables.exec = Jvm.exec) (hb : c.code = cc) (hret : meth.sig.returnType = ret) (hrk : ab_rkok rk ret) (hlocks : meth.locks = false)
    (h : ab_rt T n0 os rk sp pc i len X = true) (hdg : decode cc pc = .ok (i, len)) {ρ : Nat → Int} {σ : ab_SG} (hG : ab_Gm cy ad wr cr D cl sh T C nL n0 ρ0 σ0 A s.heap X ρ σ H locs ls st) :
    W p l e R s m args below meth c H locs cells slots (MQ below (ab_QC cy ad wr cr D cl sh T C n0 ρ0 σ0 os A) args s cells slots A) (F0 m pc ls st) := by
  obtain ⟨L, S, B, F, Dl, M⟩ := X
  obtain ⟨hK, hr0, hn0, hL, hS, hP, hSS⟩ := hG
  dsimp only at hK hr0 hn0 hL hS
  unfold ab_rt at h
  rw [Bool.or_eq_true] at h
  replace h := h.resolve_right (fun q => by
    rw [Bool.and_eq_true] at q
    obtain ⟨x, hx9, hx8⟩ := List.any_eq_true.mp q.1
    have h1 := Nat.le_of_ble_eq_true (List.all_eq_true.mp hsp x hx9)
    have h2 := ab_beq hx8
    omega)
  rw [Bool.and_eq_true, Bool.and_eq_true] at h
  obtain ⟨⟨h1, h3⟩, h2⟩ := h
  have := ab_beq h1; subst this
  obtain ⟨o, ho, hen⟩ := List.any_eq_true.mp h2
  have post : ∀ (rv : Option Value), st = rv.toList → ∀ t : State, t.heap = H → ab_QC cy ad wr cr D cl sh T C n0 ρ0 σ0 os A args s (.returned rv) t := by
    intro rv hrv t ht
    refine ⟨⟨rv, o, rfl, ho, ?_⟩, hSS.F ht⟩
    unfold ab_en at hen
    split at hen
    · rename_i B1 D1 hmat
      rw [Bool.and_eq_true] at hen
      obtain ⟨ρ1, m1, m2, m3⟩ := ab_mat_ok _ hK hmat
      obtain ⟨v1, v2⟩ := ab_vf_th m1.1 hen.1
      obtain ⟨vK, -, vS⟩ := ab_vf_ok (ad := ad) (wr := wr) (cr := cr) (nL := nL) (ls := ls) (L := []) hen.1 m1 ⟨⟨hL.1.1, hL.1.2.1, fun q hq => by cases hq⟩, fun q hq => by cases hq⟩ (ab_okS_ext hS m2 m3)
      obtain ⟨w1, w2⟩ := ab_rid_ok (ρ := ρ1) n0 0 _ hen.2
      refine ⟨_, σ, fun j hj => ?_, by rw [← v2]; exact w1, vK, by rw [← hrv]; exact vS, by rw [ht]; exact hP⟩
      rw [w2 j hj, Nat.zero_add, m3 j (Nat.lt_of_lt_of_le hj hn0), hr0 j hj]
    · cases hen
  replace h3 : ab_rk rk B i S = true := h3
  unfold ab_rk at h3
  split at h3
  · rename_i s9 c9
    obtain ⟨st1, rfl, hs1, hS1⟩ := ab_okS_pop hS
    have : st1 = [] := hS1.1
    subst this
    rw [Bool.or_eq_true] at h3
    rcases h3 with h3 | h3
    · have h3 := ab_beq h3
      subst h3
      exact W.iret hx hb (hret.trans hrk) (fun t ht _ => post (some (.int _)) rfl t ht) hSS.2.2 hdg hlocks
    · rw [Bool.and_eq_true] at h3
      have h4 := ab_beq h3.1
      subst h4
      have hf : (ab_le 0 (ab_lo B s9 + c9) && ab_le (ab_hi B s9 + c9) 1) = true := h3.2
      rw [Bool.and_eq_true, ab_le_iff, ab_le_iff] at hf
      have hs1 : s9 < B.length := hs1
      have hb9 := hK.1 s9 hs1
      exact W.zret hx hb (hret.trans hrk) (ab_nar_zv (x := ρ s9 + c9) (by omega) (by omega)).1 (fun t ht _ => post (some (.int _)) rfl t ht) hSS.2.2 hdg hlocks
  · obtain ⟨st1, rfl, hs1, hS1⟩ := ab_okS_pop hS
    have : st1 = [] := hS1.1
    subst this
    have h3 := ab_beq h3
    subst h3
    exact W.lret hx hb (hret.trans hrk) (fun t ht _ => post (some (.long _)) rfl t ht) hSS.2.2 hdg hlocks
  · rename_i a9
    obtain ⟨st1, rfl, hs1, hS1⟩ := ab_okS_pop hS
    have : st1 = [] := hS1.1
    subst this
    rw [Bool.and_eq_true] at h3
    have h4 := ab_beq h3.1
    subst h4
    obtain ⟨n9, hn9⟩ := hrk
    refine W.aret (v := ab_V ad wr cr ρ a9) hx hb (hret.trans hn9) (Or.inl ⟨n9, rfl⟩) ?_ (fun t ht _ => post (some _) rfl t ht) hSS.2.2 hdg hlocks
    rcases ab_ref (ad := ad) (wr := wr) (cr := cr) (ρ := ρ) h3.2 with ⟨x, hx1⟩ | hx1
    · exact Or.inr ⟨x, hx1⟩
    · exact Or.inl hx1
  · have : st = [] := hS.1
    subst this
    have h3 := ab_beq h3
    subst h3
    exact W.vret hx hb (hret.trans hrk) (fun t ht _ => post none rfl t ht) hSS.2.2 hdg hlocks
  · cases h3
/-- all that a method's run stands on -/
def ab_Ev (p : Program) (l : Launch) (s : State) (m : MethodId) (args : Array Value) (meth : Method) (c : Code) (cc : ByteArray) (nL lev : Nat) (R : Room) (cy : Nat → ClassId) (ad wr cr : Nat → Nat) (D : va_G) (cl : List vw_C) (sh : List ab_SP) (T : ab_RG) (C : ab_CT) (own : String) (A : Nat → Prop) (H0 : Heap) (Ts TT : List Jvm.Cond) (NW : ab_NW) (MT : List ab_MR) (KI KJ : List (Nat × Int)) (PF : ab_PT) (kd : ab_KD) (PS : ab_PS) (PM : ab_PC2) (KS : ab_KS) : Prop :=
  p.tables.exec = Jvm.exec ∧ c.code = cc ∧ c.maxLocals = nL ∧ s.vm.findClass own = some m.cls ∧ (∀ w ∈ Ts, w.before args s = true) ∧ va_K D cl (ab_tys cy) s ∧ ab_okN NW s ∧ (∀ w ∈ TT, w ∈ Ts ∧ goodWord w = true) ∧ (∀ mr ∈ MT, goodWord (Jvm.Cond.code mr.1 mr.2.1 mr.2.2.1 mr.2.2.2.1) = true) ∧
  (∀ k, k < sh.length → A (ad k)) ∧ (∀ q, H0.size ≤ q → A q) ∧ (∀ q ∈ PM, ab_mlk MT Ts NW own q) ∧ (∀ q ∈ KS, ab_hold l cy ad wr cr D cl sh T C NW kd TT MT q) ∧ (lev ≤ R.frames ∧ 40 * lev ≤ R.locals) ∧
  (∀ q ∈ KI, (Jvm.Cond.constant own q.1 (Int32.ofInt q.2)).before args s = true) ∧ (∀ q ∈ KJ, (Jvm.Cond.constantLong own q.1 (Int64.ofInt q.2)).before args s = true) ∧ (∀ q ∈ PF, ab_fok cl Ts own q) ∧ (∀ σ, va_D A (ab_WD cy ad wr sh σ)) ∧ ab_CB cy ad wr cr kd A s ∧ H0 = s.heap ∧ (∀ q ∈ PS, ab_psok Ts kd own q)
set_option maxHeartbeats 4000000 in
theorem ab_st_ok {rk : Nat} {os : List ab_OU} {sp : List Nat} (hE : ab_Ev p l s m args meth c cc nL lev R cy ad wr cr D cl sh T C own A H0 Ts TT NW MT KI KJ PF kd PS PM KS)
    {l9 : List (Nat × ab_AS)} (h : ab_st cl T C sh MT KI KJ PF kd PS PM KS lev cc nL n0 os rk sp pc X = some l9) {ρ : Nat → Int} {σ : ab_SG} (hG : ab_Gm cy ad wr cr D cl sh T C nL n0 ρ0 σ0 A H0 X ρ σ H locs ls st)
    (hRT : ∀ i len, decode cc pc = .ok (i, len) → ab_rt T n0 os rk sp pc i len X = true → W p l e R s m args below meth c H locs 0 0 Q (F0 m pc ls st))
    (kk : ∀ q ∈ l9, ab_To p l e R s m args below meth c Q cy ad wr cr D cl sh T C nL n0 ρ0 σ0 A H0 X.2.2.1.length ρ q) : W p l e R s m args below meth c H locs 0 0 Q (F0 m pc ls st) := by
  obtain ⟨hx, hb, hml, hown, hts, hKK, hN, hTT, hcode, hA, hA2, hPM, hKS, hR, hKI, hKJ, hPF, hD, hCB, hH0, hPS⟩ := hE
  have hG0 := hG
  obtain ⟨L, S, B, F, Dl, M⟩ := X
  obtain ⟨hK, hr0, hn0, hL, hS, hP, hSS⟩ := hG
  dsimp only at hK hr0 hn0 hL hS kk
  unfold ab_st at h
  split at h
  · rename_i i9 len9 hdg
    split at h
    · rename_i r9 hr9
      cases h
      obtain ⟨L', S', B', F'⟩ := r9
      refine ab_pu_ok (ad := ad) (wr := wr) (cr := cr) hx hb hown hKI hKJ hr9 hdg hK hL hS (fun ρ' ls' st' a1 a2 a3 a4 a5 => ?_)
      exact kk _ List.mem_cons_self ρ' σ H locs ls' st' a2 a3 ⟨a1, fun i hi => (a3 i (Nat.lt_of_lt_of_le hi hn0)).trans (hr0 i hi), Nat.le_trans hn0 a2, a4, a5, hP, hSS⟩
    · split at h
      · rename_i r9 hr9
        cases h
        obtain ⟨S', B', Dl', M'⟩ := r9
        refine ab_hp_ok hx hb hown hts hKK hD hPF hr9 hdg hK hS hP hSS (fun ρ' σ' H' locs' st' a1 a2 a3 a4 a5 a6 => ?_)
        exact kk _ List.mem_cons_self ρ' σ' H' locs' ls st' a2 a3 ⟨a1, fun i hi => (a3 i (Nat.lt_of_lt_of_le hi hn0)).trans (hr0 i hi), Nat.le_trans hn0 a2, ab_okL_ext hL a2 a3, a6, a4, a5⟩
      · split at h
        · rename_i l8 hr9
          cases h
          refine ab_br_ok (ad := ad) (wr := wr) (cr := cr) hx hb hr9 hdg ?_ hK.1 hK.2.1 hK.2.2.1 hK.2.2.2.1 hS (fun q hq st' a1 a2 => ?_)
          · intro j n hj
            split at hj
            · rename_i q8 hq8
              cases hj
              exact hq8
            · cases hj
          · have hlen : q.2.2.1.length = B.length := a1.1
            have hk := kk _ (List.mem_map.mpr ⟨q, hq, rfl⟩) ρ σ H locs ls st' (by show B.length ≤ q.2.2.1.length; rw [hlen]; exact Nat.le_refl _) (fun _ _ => rfl)
            refine hk ⟨?_, hr0, by show n0 ≤ q.2.2.1.length; rw [hlen]; exact hn0, by show ab_okL _ _ _ q.2.2.1.length _ _ _ _; rw [hlen]; exact hL, by show ab_okS _ _ _ q.2.2.1.length _ _ _; rw [hlen]; exact a2, hP, hSS⟩
            show ab_K T C σ0 q.2.2.1 q.2.2.2 Dl M ρ σ
            exact ⟨a1.2.1, by rw [hlen]; exact a1.2.2, hK.2.2.1, by rw [hlen]; exact hK.2.2.2.1, by rw [hlen]; exact hK.2.2.2.2.1, hK.2.2.2.2.2⟩
        · split at h
          · rename_i l8 hr9
            cases h
            exact ab_cl_ok hx hb hml hown hts hKK hN hCB hH0 hTT hcode hA hA2 hPM hKS hR hr9 hdg hG0 (fun x hx9 => kk _ (List.mem_map.mpr ⟨x, hx9, rfl⟩))
          · split at h
            · rename_i r9 hr9
              cases h
              obtain ⟨S', B'⟩ := r9
              refine ab_ks_ok (ad := ad) (wr := wr) (cr := cr) hx hb hown hts hKK hCB hPS hr9 hdg hK hS (by rw [← hH0]; exact hSS) (fun ρ' st' a1 a2 a3 a4 => ?_)
              exact kk _ List.mem_cons_self ρ' σ H locs ls st' a2 a3 ⟨a1, fun i hi => (a3 i (Nat.lt_of_lt_of_le hi hn0)).trans (hr0 i hi), Nat.le_trans hn0 a2, ab_okL_ext hL a2 a3, a4, hP, hSS⟩
            · split at h
              · rename_i l8 hr9
                cases h
                refine ab_mo_ok (ad := ad) (wr := wr) (cr := cr) hx hb (hml.trans hL.1.1.symm) hown hts hCB hPS hR (Nat.zero_le _) (Nat.zero_le _) hr9 hdg hK hS (fun q hq ρ' st' a1 a2 a3 a4 => ?_)
                exact kk _ (List.mem_map.mpr ⟨q, hq, rfl⟩) ρ' σ H locs ls st' a2 a3 ⟨a1, fun i hi => (a3 i (Nat.lt_of_lt_of_le hi hn0)).trans (hr0 i hi), Nat.le_trans hn0 a2, ab_okL_ext hL a2 a3, a4, hP, hSS⟩
              · obtain ⟨g, h2⟩ := ab_cs h
                exact hRT i9 len9 hdg g
  · cases h
theorem ab_c1_ok {ρ : Nat → Int} {s9 : Nat} {v : Int} {n : Nat} {a : ab_AV} (h0 : ρ 0 = 0) (hn : 0 < n) (hv : ρ s9 = v) (h : ab_sy n a) : ab_V ad wr cr ρ (ab_c1 s9 v a) = ab_V ad wr cr ρ a ∧ ab_sy n (ab_c1 s9 v a) := by
  obtain ⟨t, u, c9⟩ := a
  match t, h with
  | 0, h =>
    cases hc : u.beq s9 with
    | false => have e1 : ab_c1 s9 v (0, u, c9) = (0, u, c9) := by unfold ab_c1; show cond (u.beq s9) _ _ = _; rw [hc]; rfl
               rw [e1]; exact ⟨rfl, h⟩
    | true => have e1 : ab_c1 s9 v (0, u, c9) = (0, 0, v + c9) := by unfold ab_c1; show cond (u.beq s9) _ _ = _; rw [hc]; rfl
              rw [e1]
              have := ab_beq hc
              subst this
              exact ⟨by show Value.int _ = Value.int _; rw [h0, hv, Int.zero_add], hn⟩
  | 1, h =>
    cases hc : u.beq s9 with
    | false => have e1 : ab_c1 s9 v (1, u, c9) = (1, u, c9) := by unfold ab_c1; show cond (u.beq s9) _ _ = _; rw [hc]; rfl
               rw [e1]; exact ⟨rfl, h⟩
    | true => have e1 : ab_c1 s9 v (1, u, c9) = (1, 0, v + c9) := by unfold ab_c1; show cond (u.beq s9) _ _ = _; rw [hc]; rfl
              rw [e1]
              have := ab_beq hc
              subst this
              exact ⟨by show Value.long _ = Value.long _; rw [h0, hv, Int.zero_add], hn⟩
  | 2, _ => exact ⟨rfl, trivial⟩
  | 3, _ => exact ⟨rfl, trivial⟩
  | 4, h =>
    cases hc : u.beq s9 with
    | false => have e1 : ab_c1 s9 v (4, u, c9) = (4, u, c9) := by unfold ab_c1; show cond (u.beq s9) _ _ = _; rw [hc]; rfl
               rw [e1]; exact ⟨rfl, h⟩
    | true => have e1 : ab_c1 s9 v (4, u, c9) = (4, 0, v + c9) := by unfold ab_c1; show cond (u.beq s9) _ _ = _; rw [hc]; rfl
              rw [e1]
              have := ab_beq hc
              subst this
              exact ⟨by show ab_wv _ _ = ab_wv _ _; rw [h0, hv, Int.zero_add], hn⟩
  | n + 5, _ => exact ⟨rfl, trivial⟩
theorem ab_vs_in {s9 : Nat} : ∀ (n : Nat) (v x : Int), v ≤ x → x < v + n → ab_cX s9 x X ∈ ab_vs s9 X n v := by
  intro n
  induction n with
  | zero => intro v x h1 h2; exact absurd h2 (by omega)
  | succ n ih =>
    intro v x h1 h2
    by_cases h : x = v
    · subst h; exact List.mem_cons_self
    · exact List.mem_cons_of_mem _ (ih (v + 1) x (by omega) (by omega))
theorem ab_sl_ok {HN : List (Nat × Nat)} {ρ : Nat → Int} {σ : ab_SG} (hG : ab_Gm cy ad wr cr D cl sh T C nL n0 ρ0 σ0 A H0 X ρ σ H locs ls st) : ∃ X' ∈ ab_sl HN pc X, X'.2.2.1.length = X.2.2.1.length ∧ ab_Gm cy ad wr cr D cl sh T C nL n0 ρ0 σ0 A H0 X' ρ σ H locs ls st := by
  unfold ab_sl
  split
  · rename_i h9 _
    split
    · rename_i s9 c9 hlk
      cases hz : s9.beq 0 with
      | true => exact ⟨X, List.mem_singleton.mpr rfl, rfl, hG⟩
      | false =>
        obtain ⟨hK, hr0, hn0, hL, hS, hP, hSS⟩ := hG
        have hs9 : s9 < X.2.2.1.length := (ab_okL_at hL hlk).2
        have hb := hK.1 s9 hs9
        refine ⟨ab_cX s9 (ρ s9) X, ab_vs_in _ _ _ hb.1 (by omega), by show (X.2.2.1.set _ _).length = _; rw [List.length_set], ?_⟩
        have hlen : (ab_cX s9 (ρ s9) X).2.2.1.length = X.2.2.1.length := by show (X.2.2.1.set _ _).length = _; rw [List.length_set]
        have c1 := fun (a : ab_AV) (ha : ab_sy X.2.2.1.length a) => ab_c1_ok (ad := ad) (wr := wr) (cr := cr) (s9 := s9) hK.2.2.1 hK.2.2.2.1 rfl ha
        refine ⟨⟨?_, ?_, hK.2.2.1, by rw [hlen]; exact hK.2.2.2.1, ?_, hK.2.2.2.2.2⟩, hr0, by rw [hlen]; exact hn0, ⟨?_, ?_⟩, ⟨?_, ?_⟩, hP, hSS⟩
        · exact ab_okB_set hK.1 s9 (fun _ => ⟨Int.le_refl _, Int.le_refl _⟩)
        · rw [hlen]; exact hK.2.1
        · rw [hlen]
          intro d hd
          obtain ⟨x, hx, rfl⟩ := List.mem_map.mp hd
          obtain ⟨g1, g2⟩ := hK.2.2.2.2.1 x hx
          cases hc : x.2.1.beq s9 with
          | false => exact ⟨g1, g2⟩
          | true =>
            have := ab_beq hc
            refine ⟨hK.2.2.2.1, ?_⟩
            show σ x.1.1 x.1.2 = ρ 0 + (ρ s9 + x.2.2)
            rw [g2, this, hK.2.2.1, Int.zero_add]
        · have e1 : (ab_cX s9 (ρ s9) X).1.map (fun q => (q.1, ab_V ad wr cr ρ q.2)) = X.1.map (fun q => (q.1, ab_V ad wr cr ρ q.2)) := by
            show (X.1.map _).map _ = _
            rw [List.map_map]
            exact List.map_congr_left (fun q hq => by show (q.1, ab_V ad wr cr ρ (ab_c1 s9 (ρ s9) q.2)) = _; rw [(c1 q.2 (hL.2 q hq)).1])
          rw [e1]
          exact hL.1
        · rw [hlen]
          intro q hq
          obtain ⟨x, hx, rfl⟩ := List.mem_map.mp hq
          exact (c1 x.2 (hL.2 x hx)).2
        · show st = (X.2.1.map _).map _
          rw [List.map_map, hS.1]
          exact List.map_congr_left (fun a ha => ((c1 a (hS.2 a ha)).1).symm)
        · rw [hlen]
          intro a ha
          obtain ⟨x, hx, rfl⟩ := List.mem_map.mp ha
          exact (c1 x (hS.2 x hx)).2
    · exact ⟨X, List.mem_singleton.mpr rfl, rfl, hG⟩
  · exact ⟨X, List.mem_singleton.mpr rfl, rfl, hG⟩
end
