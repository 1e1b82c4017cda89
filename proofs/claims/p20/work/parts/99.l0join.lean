/-! a contract out of two by an argument's bounds; a contract read node by node -/
theorem nn_met_room {l : Launch} {y : MethodName} {ws : List Jvm.Cond} {rm rm' : Room} {Pc : Array Value → State → Prop} {Qc Qc' : Array Value → State → Outcome → State → Prop} {mc ms : Nat} {free : Addr → Prop}
    (hf : rm.frames ≤ rm'.frames) (hl : rm.locals ≤ rm'.locals) (hc : rm.cells ≤ rm'.cells) (hs : rm.slots ≤ rm'.slots) (hq : ∀ a st o t, Qc a st o t → Qc' a st o t)
    (h : Met l y ws rm Pc Qc mc ms free) : Met l y ws rm' Pc Qc' mc ms free := by
  intro p e hadm hfc hfk s m args below hfr happ hP hK
  have happ' : (headSpec ws rm).appliesLoose y e.platform s = true := by
    rw [Spec.appliesLoose_iff hfr] at happ ⊢
    obtain ⟨a1, a2, a3, a4, a5, a6, a7, a8⟩ := happ
    refine ⟨a1, a2, a3, a4, a5, a6, ?_, a8⟩
    have a7 : s.hasRoom e.platform rm' = true := a7
    show s.hasRoom e.platform rm = true
    unfold State.hasRoom at a7 ⊢
    simp only [Bool.and_eq_true, decide_eq_true_eq] at a7 ⊢
    obtain ⟨⟨⟨⟨b1, b2, b3, b4, b5, b6⟩, b7⟩, b8⟩, b9⟩ := a7
    exact ⟨⟨⟨⟨by omega, by omega, by omega, by omega, by omega, b6⟩, by omega⟩, by omega⟩, b9⟩
  obtain ⟨n, o, c1, c2, c3, c4, c5⟩ := h p e hadm hfc hfk s m args below hfr happ' hP hK
  exact ⟨n, o, c1, c2, c3, hq _ _ _ _ c4, c5⟩
/-- a contract with other bounds of one symbol -/
def nn_wd (i : Nat) (a b : Int) (ct : ab_CN) : ab_CN := (ct.1, ct.2.1.set i (a, b), ct.2.2.1, ct.2.2.2.1, ct.2.2.2.2.map (fun o => (o.1, o.2.1.set i (a, b), o.2.2.1, o.2.2.2.1, o.2.2.2.2)))
theorem nn_set_ok {B : ab_BD} {i : Nat} {a b a' b' : Int} {ρ : Nat → Int} (h : ab_okB (B.set i (a, b)) ρ) (h1 : i < B.length → a' ≤ ρ i) (h2 : i < B.length → ρ i ≤ b') : ab_okB (B.set i (a', b')) ρ := by
  intro j hj
  rw [List.length_set] at hj
  have h3 := h j (by rw [List.length_set]; exact hj)
  unfold ab_lo ab_hi at h3 ⊢
  rw [List.getD_eq_getElem?_getD, List.getElem?_set] at h3 ⊢
  by_cases e : i = j
  · subst e
    rw [if_pos rfl, if_pos hj]
    exact ⟨h1 hj, h2 hj⟩
  · rw [if_neg e] at h3 ⊢
    exact h3
theorem nn_set_K {T : ab_RG} {C : ab_CT} {σ0 σ : ab_SG} {B : ab_BD} {F : ab_FT} {Dl : ab_DL} {M : ab_ML} {i : Nat} {a b a' b' : Int} {ρ : Nat → Int} (h : ab_K T C σ0 (B.set i (a, b)) F Dl M ρ σ) (h1 : i < B.length → a' ≤ ρ i) (h2 : i < B.length → ρ i ≤ b') :
    ab_K T C σ0 (B.set i (a', b')) F Dl M ρ σ := by
  obtain ⟨k1, k2, k3, k4, k5, k6, k7, k8⟩ := h
  rw [List.length_set] at k2 k4 k5
  exact ⟨nn_set_ok k1 h1 h2, by rw [List.length_set]; exact k2, k3, by rw [List.length_set]; exact k4, by rw [List.length_set]; exact k5, k6, k7, k8⟩
theorem nn_join {l : Launch} {cy : Nat → ClassId} {ad wr cr : Nat → Nat} {D : va_G} {cl : List vw_C} {sh : List ab_SP} {T : ab_RG} {C : ab_CT} {NW : ab_NW} {kd : ab_KD} {TT : List Jvm.Cond} {MT : List ab_MR} {mn l1 l2 lev i : Nat} {a k b : Int} {ct : ab_CN}
    (h1 : ab_hold l cy ad wr cr D cl sh T C NW kd TT MT (mn, l1, nn_wd i a k ct)) (h2 : ab_hold l cy ad wr cr D cl sh T C NW kd TT MT (mn, l2, nn_wd i (k + 1) b ct)) (hk1 : a ≤ k + 1) (hk2 : k ≤ b) (hl1 : l1 ≤ lev) (hl2 : l2 ≤ lev) (hi : i < ct.2.1.length) :
    ab_hold l cy ad wr cr D cl sh T C NW kd TT MT (mn, lev, nn_wd i a b ct) := by
  intro mr hmr
  obtain ⟨a1, a2, a3⟩ := h1 mr hmr
  obtain ⟨-, -, b3⟩ := h2 mr hmr
  have hlen : ∀ x y : Int, (nn_wd i x y ct).2.1.length = ct.2.1.length := fun x y => List.length_set
  refine ⟨by rw [hlen] at a1 ⊢; exact a1, a2, fun ρ σ sz hK hsy => ?_⟩
  have hQ : ∀ (x y : Int) (_ : a ≤ x) (_ : y ≤ b) (_ : x ≤ ρ i) (_ : ρ i ≤ y) (A : Nat → Prop) (av : Array Value) (st : State) (o : Outcome) (t : State), ab_QC cy ad wr cr D cl sh T C (nn_wd i x y ct).2.1.length ρ σ (nn_wd i x y ct).2.2.2.2 A av st o t → ab_QC cy ad wr cr D cl sh T C (nn_wd i a b ct).2.1.length ρ σ (nn_wd i a b ct).2.2.2.2 A av st o t := by
    intro x y hx hy hρ1 hρ2 A av st o t hq
    obtain ⟨⟨rv, o1, e1, e2, ρ', σ', f1, f2, f3, f4, f5⟩, hF⟩ := hq
    rw [hlen] at f1 f2
    obtain ⟨o0, g1, rfl⟩ := List.mem_map.mp e2
    have hρ' : ρ' i = ρ i := f1 i hi
    refine ⟨⟨rv, _, e1, List.mem_map.mpr ⟨o0, g1, rfl⟩, ρ', σ', by rw [hlen]; exact f1, ?_, nn_set_K f3 (fun _ => by omega) (fun _ => by omega), ?_, f5⟩, hF⟩
    · rw [hlen]
      have f2 : ct.2.1.length ≤ (o0.2.1.set i (x, y)).length := f2
      show ct.2.1.length ≤ (o0.2.1.set i (a, b)).length
      rw [List.length_set] at f2 ⊢
      exact f2
    · have f4 : ab_okS ad wr cr (o0.2.1.set i (x, y)).length ρ' o0.1 rv.toList := f4
      show ab_okS ad wr cr (o0.2.1.set i (a, b)).length ρ' o0.1 rv.toList
      rw [List.length_set] at f4 ⊢
      exact f4
  have hb := hK.1 i (by rw [hlen]; exact hi)
  have hb' : a ≤ ρ i ∧ ρ i ≤ b := by
    have hb : ab_lo (ct.2.1.set i (a, b)) i ≤ ρ i ∧ ρ i ≤ ab_hi (ct.2.1.set i (a, b)) i := hb
    unfold ab_lo ab_hi at hb
    rw [List.getD_eq_getElem?_getD, List.getElem?_set, if_pos rfl, if_pos hi] at hb
    exact hb
  have hsy' : ∀ (x y : Int), ∀ v ∈ (nn_wd i x y ct).1, ab_sy (nn_wd i x y ct).2.1.length v := fun x y v hv => by
    have := hsy v hv
    rw [hlen] at this ⊢
    exact this
  by_cases hc : ρ i ≤ k
  · have hM := a3 ρ σ sz (nn_set_K hK (fun _ => hb'.1) (fun _ => hc)) (hsy' a k)
    refine nn_met_room (rm := ab_room l1) (rm' := ab_room lev) hl1 (Nat.mul_le_mul_left 40 hl1) (Nat.le_refl _) (Nat.le_refl _) ?_ hM
    exact hQ a k (Int.le_refl _) hk2 hb'.1 hc _
  · have hM := b3 ρ σ sz (nn_set_K hK (fun _ => by omega) (fun _ => hb'.2)) (hsy' (k + 1) b)
    refine nn_met_room (rm := ab_room l2) (rm' := ab_room lev) hl2 (Nat.mul_le_mul_left 40 hl2) (Nat.le_refl _) (Nat.le_refl _) ?_ hM
    exact hQ (k + 1) b (by omega) (Int.le_refl _) (by omega) hb'.2 _
/-- some of the nodes -/
noncomputable def nn_ck1 (cl : List vw_C) (T : ab_RG) (C : ab_CT) (sh : List ab_SP) (MT : List ab_MR) (own : String) (KI KJ : List (Nat × Int)) (PF : ab_PT) (kd : ab_KD) (PS : ab_PS) (PM : ab_PC2) (KS : ab_KS) (lev mn fuel : Nat) (sp HD : List Nat) (HN : ab_HH) (mu : ab_M3) (ct : ab_CN) (NS : List ab_ND) (nds : List ab_ND) : Bool := match MT[mn]?, nn_DT[mn]? with
  | some mr, some dt => (1 : Nat).ble ct.2.1.length && (!mr.2.2.2.2.2.1 || nn_rcB cl sh mr.1.cls ct.1) && (ab_cat ct.1).ble mr.2.2.1 && nn_rkB mr.2.2.2.2.2.2 mr.2.2.2.1 && plainName mr.1.cls && decide (mr.1.cls = own) &&
    nds.all (fz_cn cl T C sh MT KI KJ PF kd PS PM KS lev 0 dt mr.2.2.1 ct.2.1.length ct.2.2.2.2 mr.2.2.2.2.2.2 sp HD HN [] (((0, (ab_en0 0 ct.1, [], ct.2.1, ct.2.2.1, ct.2.2.2.1, []), mu) : ab_ND) :: NS) fuel)
  | _, _ => false
theorem nn_ck1_app {cl : List vw_C} {T : ab_RG} {C : ab_CT} {sh : List ab_SP} {MT : List ab_MR} {own : String} {KI KJ : List (Nat × Int)} {PF : ab_PT} {kd : ab_KD} {PS : ab_PS} {PM : ab_PC2} {KS : ab_KS} {lev mn fuel : Nat} {sp HD : List Nat} {HN : ab_HH} {mu : ab_M3} {ct : ab_CN} {NS A B : List ab_ND}
    (h1 : nn_ck1 cl T C sh MT own KI KJ PF kd PS PM KS lev mn fuel sp HD HN mu ct NS A = true) (h2 : nn_ck1 cl T C sh MT own KI KJ PF kd PS PM KS lev mn fuel sp HD HN mu ct NS B = true) : nn_ck1 cl T C sh MT own KI KJ PF kd PS PM KS lev mn fuel sp HD HN mu ct NS (A ++ B) = true := by
  unfold nn_ck1 at h1 h2 ⊢
  split at h1
  · rename_i mr dt e1 e2
    rw [e1, e2] at h2
    rw [Bool.and_eq_true] at h1 h2 ⊢
    exact ⟨h1.1, by rw [List.all_append, h1.2, h2.2]; rfl⟩
  · cases h1
theorem nn_ck_of {cl : List vw_C} {T : ab_RG} {C : ab_CT} {sh : List ab_SP} {MT : List ab_MR} {own : String} {KI KJ : List (Nat × Int)} {PF : ab_PT} {kd : ab_KD} {PS : ab_PS} {PM : ab_PC2} {KS : ab_KS} {lev mn fuel : Nat} {sp HD : List Nat} {HN : ab_HH} {mu : ab_M3} {ct : ab_CN} {NS : List ab_ND}
    (h1 : nn_ck1 cl T C sh MT own KI KJ PF kd PS PM KS lev mn fuel sp HD HN mu ct NS [((0, (ab_en0 0 ct.1, [], ct.2.1, ct.2.2.1, ct.2.2.2.1, []), mu) : ab_ND)] = true) (h2 : nn_ck1 cl T C sh MT own KI KJ PF kd PS PM KS lev mn fuel sp HD HN mu ct NS NS = true) :
    nn_ck cl T C sh MT own KI KJ PF kd PS PM KS lev mn fuel sp HD HN mu ct NS = true := nn_ck1_app h1 h2
