section
/-! the reference's replies: values in row 110, moves in row 112 -/
section
variable {l : Launch} {cy : Nat → ClassId} {ad wr cr : Nat → Nat} {D : va_G}
end
end
section
/-! the relation over calls that play a duel -/
end
section
/-! a ratio in its least numbers -/
theorem pt_div {x y : Nat} (hx : x ≤ 2460275073345600) (h1 : 1 ≤ y) (hy : y ≤ 2460275073345600) : fw_lop 3 (x : Int) (y : Int) = ((x / y : Nat) : Int) := by
  have b : x / y ≤ x := Nat.div_le_self x y
  show (Int64.ofInt (x : Int) / Int64.ofInt (y : Int)).toInt = _
  rw [Int64.toInt_div, Int64.toInt_ofInt_of_le (by omega) (by omega), Int64.toInt_ofInt_of_le (by omega) (by omega), Int.tdiv_eq_ediv_of_nonneg (by omega), ← Int.natCast_ediv]
  generalize x / y = z at b ⊢
  exact Int.bmod_eq_of_le (by omega) (by omega)
theorem pt_rem {x y : Nat} (hx : x ≤ 2460275073345600) (h1 : 1 ≤ y) (hy : y ≤ 2460275073345600) : fw_lop 4 (x : Int) (y : Int) = ((x % y : Nat) : Int) := by
  have e1 : Int64.ofInt (x : Int) / Int64.ofInt (y : Int) = Int64.ofInt ((x / y : Nat) : Int) := by
    rw [← pt_div hx h1 hy]
    exact (Int64.ofInt_toInt _).symm
  have b : x / y ≤ x := Nat.div_le_self x y
  have r : x % y < y := Nat.mod_lt x (by omega)
  have d := Nat.div_add_mod x y
  have c : x / y * y = y * (x / y) := Nat.mul_comm _ _
  show (Int64.ofInt (x : Int) - Int64.ofInt (x : Int) / Int64.ofInt (y : Int) * Int64.ofInt (y : Int)).toInt = _
  rw [e1, ← Int64.ofInt_mul, ← Int64.ofInt_sub, ← Int.natCast_mul, show (x : Int) - ((x / y * y : Nat) : Int) = ((x % y : Nat) : Int) by omega]
  exact Int64.toInt_ofInt_of_le (by omega) (by omega)
section
variable {l : Launch} {cy : Nat → ClassId} {ad wr cr : Nat → Nat} {D : va_G}
end
end
section
/-! methods that return or throw, over known numbers -/
def fx_Go (p : Program) (l : Launch) (e : Env) (R : Room) (s : State) (m : MethodId) (args : Array Value) (below : List Frame) (meth : Method) (c : Code) (cells slots : Nat) (cy : Nat → ClassId) (ad wr cr : Nat → Nat) (D : va_G) (cl : List vw_C) (sh : List ab_SP) (A : Nat → Prop) (nL : Nat) (Q : State → Prop) : fw_K := fun pc L S σ =>
  ∀ (H : Heap) (locs : List Loc) (ls : Array Slot) (st : List Value), fw_okL ad wr cr nL L ls → fw_okS ad wr cr S st → va_P D cl (ab_WD cy ad wr sh σ) H → va_S A s.heap H locs → W p l e R s m args below meth c H locs cells slots Q (F0 m pc ls st)
section
variable {p : Program} {l : Launch} {e : Env} {R : Room} {s : State} {m : MethodId} {args : Array Value} {below : List Frame} {meth : Method} {c : Code} {H : Heap} {locs : List Loc} {cc : ByteArray} {pc : Nat} {ls : Array Slot} {st : List Value}
variable {ad wr cr : Nat → Nat} {cy : Nat → ClassId} {nL lev rk : Nat} {S : List ab_AV} {own : String} {i : Instr} {len : Nat} {D : va_G} {cl : List vw_C} {sh : List ab_SP} {A : Nat → Prop} {Ts TT : List Jvm.Cond} {NW : ab_NW} {kd : ab_KD} {kv : Nat → Nat → Int} {wc : Nat → Int} {MT : List ab_MR} {FK : List fw_CR} {σ : ab_SG} {KI KJ : List (Nat × Int)} {PF : ab_PT} {PS : ab_PS} {dt : ab_DT}
variable {cells slots : Nat} {Q : State → Prop}
theorem fx_rt_ok {ret : Option FieldType} {K : fw_KR} (hx : p.tables.exec = Jvm.exec) (hb : c.code = cc) (hret : meth.sig.returnType = ret) (hrk : ab_rkok rk ret) (hlocks : meth.locks = false)
    (h : fw_rt rk i len S (fun rv => K rv σ)) (hdg : decode cc pc = .ok (i, len)) (hS : fw_okS ad wr cr S st) (hP : va_P D cl (ab_WD cy ad wr sh σ) H) (hSS : va_S A s.heap H locs) :
    W p l e R s m args below meth c H locs cells slots (MQ below (fw_QC cy ad wr cr D cl sh K A) args s cells slots A) (F0 m pc ls st) := by
  have post : ∀ (rv : Option ab_AV), K rv σ → ∀ t : State, t.heap = H → fw_QC cy ad wr cr D cl sh K A args s (.returned (rv.map (ab_V ad wr cr fw_z))) t := fun rv hk t ht => ⟨⟨rv, σ, rfl, hk, by rw [ht]; exact hP⟩, hSS.F ht⟩
  unfold fw_rt at h
  split at h
  · rename_i s9 c9
    have h0 := fw_if_ok h
    clear h
    obtain ⟨g, h⟩ := h0
    have := ab_beq g; subst this
    obtain ⟨st1, rfl, hS1⟩ := fw_pop hS
    have : st1 = [] := hS1
    subst this
    split at h
    · exact W.iret hx hb (hret.trans hrk) (fun t ht _ => post _ h t ht) hSS.2.2 hdg hlocks
    · refine W.zret hx hb (hret.trans hrk) ?_ (fun t ht _ => post _ h.2 t ht) hSS.2.2 hdg hlocks
      have e1 := (ab_nar_zv h.1.1 h.1.2).1
      rw [fw_c_of] at e1
      show narrow .boolean (.int (Int32.ofInt (0 + c9))) = .int (Int32.ofInt (0 + c9))
      rw [Int.zero_add]
      exact e1
    · exact h.elim
  · rename_i s9 c9
    have h0 := fw_if_ok h
    clear h
    obtain ⟨g, h⟩ := h0
    rw [Bool.and_eq_true] at g
    have := ab_beq g.1; subst this
    have g2 := ab_beq g.2
    subst g2
    obtain ⟨st1, rfl, hS1⟩ := fw_pop hS
    have : st1 = [] := hS1
    subst this
    exact W.lret hx hb (hret.trans hrk) (fun t ht _ => post _ h t ht) hSS.2.2 hdg hlocks
  · rename_i a9
    have h0 := fw_if_ok h
    clear h
    obtain ⟨g, h⟩ := h0
    rw [Bool.and_eq_true, Bool.and_eq_true] at g
    have := ab_beq g.1.1; subst this
    have g2 := ab_beq g.1.2
    subst g2
    obtain ⟨st1, rfl, hS1⟩ := fw_pop hS
    have : st1 = [] := hS1
    subst this
    obtain ⟨n9, hn9⟩ := hrk
    refine W.aret (v := ab_V ad wr cr fw_z a9) hx hb (hret.trans hn9) (Or.inl ⟨n9, rfl⟩) ?_ (fun t ht _ => post (some a9) h t ht) hSS.2.2 hdg hlocks
    rcases ab_ref (ad := ad) (wr := wr) (cr := cr) (ρ := fw_z) g.2 with ⟨x, hx1⟩ | hx1
    · exact Or.inr ⟨x, hx1⟩
    · exact Or.inl hx1
  · have h0 := fw_if_ok h
    clear h
    obtain ⟨g, h⟩ := h0
    rw [Bool.and_eq_true] at g
    have := ab_beq g.1; subst this
    have g2 := ab_beq g.2
    subst g2
    have : st = [] := hS
    subst this
    exact W.vret hx hb (hret.trans hrk) (fun t ht _ => post none h t ht) hSS.2.2 hdg hlocks
  · exact h.elim
set_option maxHeartbeats 4000000 in
theorem fx_st_ok {ret : Option FieldType} {Kr : fw_KR} (hE : fw_Ev p l s m args meth c cc nL lev rk R cy ad wr cr D cl sh own A Ts TT NW MT KI KJ PF kd kv wc PS FK dt ret) (hcs : cells ≤ R.cells ∧ slots ≤ R.slots)
    (hrt : ∀ (pc : Nat) (i : Instr) (len : Nat) (S : List ab_AV) (σ : ab_SG) (H : Heap) (locs : List Loc) (ls : Array Slot) (st : List Value), fw_rt rk i len S (fun rv => Kr rv σ) → decode cc pc = .ok (i, len) → fw_okS ad wr cr S st → va_P D cl (ab_WD cy ad wr sh σ) H → va_S A s.heap H locs → W p l e R s m args below meth c H locs cells slots Q (F0 m pc ls st)) :
    fw_cls (fw_st cl sh kd kv wc KI KJ PF PS FK lev dt nL rk) Kr (fx_Go p l e R s m args below meth c cells slots cy ad wr cr D cl sh A nL Q) := by
  intro K hKG pc L S σ h H locs ls st hL hS hP hSS
  obtain ⟨hx, hb, hml, hown, hts, hKK, hN, hTT, hcode, hA, hA2, hFK, hR, hKI, hKJ, hPF, hD, hCB, hPS, hdt, hret, hrk, hlk⟩ := hE
  have hlz : ls.size = nL := hL.1
  have go : ∀ (n : Nat), fw_go p l e R s m args below meth c cells slots Q ad wr cr cy D cl sh A s.heap (fun S' σ' => K n L S' σ') n ls := fun n S' σ' H' locs' st' hk hP' hSS' hS' => hKG _ _ _ _ hk H' locs' ls st' hL hS' hP' hSS'
  have gb : ∀ (n : Nat) (S' : List ab_AV) (st' : List Value), K n L S' σ → fw_okS ad wr cr S' st' → W p l e R s m args below meth c H locs cells slots Q (F0 m n ls st') := fun n S' st' hk hS' => hKG _ _ _ _ hk H locs ls st' hL hS' hP hSS
  unfold fw_st at h
  split at h
  · rename_i i9 len9 h9 hdec
    have hdg : decode cc pc = .ok (i9, len9) := ab_dec_ok hdt hdec
    split at h
    · unfold fw_p0 at h
      split at h
      · rename_i r9 hr9
        obtain ⟨L', S'⟩ := r9
        exact fw_pu_ok hx hb hown hKI hKJ hr9 hdg hL hS (fun ls' st' hL' hS' => hKG _ _ _ _ h H locs ls' st' hL' hS' hP hSS)
      · split at h
        · rename_i q9 hq9
          obtain ⟨d9, S'⟩ := q9
          exact fw_dv_ok hx hb hq9 h.1 hdg hS (fun st' hS' => gb _ _ _ h.2 hS')
        · exact h.elim
    · unfold fw_h1 at h
      split at h
      · exact fw_ks_ok hx hb hown hts hCB hPS h hdg hS hSS (fun S' st' hk hS' => gb _ _ _ hk hS')
      · exact fw_ks_ok hx hb hown hts hCB hPS h hdg hS hSS (fun S' st' hk hS' => gb _ _ _ hk hS')
      · exact fw_ks_ok hx hb hown hts hCB hPS h hdg hS hSS (fun S' st' hk hS' => gb _ _ _ hk hS')
      · exact fw_ks_ok hx hb hown hts hCB hPS h hdg hS hSS (fun S' st' hk hS' => gb _ _ _ hk hS')
      · exact fw_ks_ok hx hb hown hts hCB hPS h hdg hS hSS (fun S' st' hk hS' => gb _ _ _ hk hS')
      · exact fw_hp_ok hx hb hown hts hKK hD hPF h hdg hS hP hSS (go _)
    · refine fw_br_ok hx hb hCB.2.2.2 h hdg (fun j n hj => ?_) hS (fun n S' st' hk hS' => gb _ _ _ hk hS')
      split at hj
      · rename_i q9 hq9
        cases hj
        exact ab_dec_ok hdt hq9
      · cases hj
    · unfold fw_p3 at h
      split at h
      · rename_i x9
        split at h
        · rename_i z9 hz9
          exact fw_mth_ok hx hb (hml.trans hlz.symm) hown hts (hPS _ (ab_pk_mem hz9)) hR hcs.1 hcs.2 h hdg hS (fun S' st' hk hS' => gb _ _ _ hk hS')
        · exact fw_cl_ok hcs hx hb hml hown hts hKK hN hCB rfl hTT hcode hA hA2 hFK hR h hdg hS hlz hP hSS (go _)
      · exact fw_cl_ok hcs hx hb hml hown hts hKK hN hCB rfl hTT hcode hA hA2 hFK hR h hdg hS hlz hP hSS (go _)
    · exact fw_ks_ok hx hb hown hts hCB hPS h hdg hS hSS (fun S' st' hk hS' => gb _ _ _ hk hS')
    · exact fw_br_ok hx hb hCB.2.2.2 h hdg (fun j n hj => by cases hj) hS (fun n S' st' hk hS' => gb _ _ _ hk hS')
    · exact hrt _ _ _ _ _ H locs ls st h hdg hS hP hSS
  · exact h.elim
end
set_option maxHeartbeats 4000000 in
end
