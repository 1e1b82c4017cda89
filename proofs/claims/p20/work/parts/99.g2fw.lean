/-! the world's numbers read and written, over known numbers -/
abbrev fw_KH : Type := List ab_AV → ab_SG → Prop
def fw_ald (sh : List ab_SP) (t tag len : Nat) (S : List ab_AV) (σ : ab_SG) (K : fw_KH) : Prop := match S with
  | (0, _, x) :: (2, k, _) :: S => match ab_arr sh t k with
    | some n => fw_if (len.beq 1 && n.ble 2147483647) ((0 ≤ fw_c x ∧ fw_c x < (n : Int)) ∧ K ((tag, 0, σ k (fw_c x).toNat) :: S) σ)
    | none => False
  | _ => False
def fw_sv (t : Nat) (v : Int) : Int := match t with
  | 1 => fw_d v
  | 2 => fw_b v
  | _ => fw_c v
def fw_so (t : Nat) (v : Int) : Prop := match t with
  | 3 => 0 ≤ fw_c v ∧ fw_c v ≤ 1
  | _ => True
def fw_ast (sh : List ab_SP) (t tag len : Nat) (S : List ab_AV) (σ : ab_SG) (K : fw_KH) : Prop := match S with
  | (tg, _, v) :: (0, _, x) :: (2, k, _) :: S => match ab_arr sh t k with
    | some n => fw_if (len.beq 1 && n.ble 2147483647 && tg.beq tag) ((0 ≤ fw_c x ∧ fw_c x < (n : Int)) ∧ fw_so t v ∧ K S (ab_ups σ k (fw_c x).toNat (fw_sv t v)))
    | none => False
  | _ => False
/-- an array's type: a cell's -/
def fw_ty (sh : List ab_SP) (k : Nat) : Nat := match sh[k]? with
  | some (.inr a) => a.1
  | _ => 9
def fw_hp (cl : List vw_C) (sh : List ab_SP) (PF : ab_PT) (i : Instr) (len : Nat) (S : List ab_AV) (σ : ab_SG) (K : fw_KH) : Prop := match i with
  | .getfield x => match S with
    | (2, k, _) :: S => match ab_pf PF x, sh[k]? with
      | some (ci, j, _), some (.inl (cj, fs)) => match fs[j]? with
        | some f => fw_if (len.beq 3 && ci.beq cj) (match f.1 with
          | 0 => K ((0, 0, σ k j) :: S) σ
          | 1 => K ((1, 0, σ k j) :: S) σ
          | 2 => K ((2, f.2, 0) :: S) σ
          | 3 => K ((3, 0, 0) :: S) σ
          | _ => K ((4, 0, σ k j) :: S) σ)
        | none => False
      | _, _ => False
    | _ => False
  | .putfield x => match S with
    | v :: (2, k, _) :: S => match ab_pf PF x, sh[k]? with
      | some (ci, j, ty), some (.inl (cj, fs)) => match fs[j]? with
        | some f => fw_if (len.beq 3 && ci.beq cj && ab_fin cl ci j) (match f.1, ty, v with
          | 0, 0, (0, _, c) => K S (ab_ups σ k j (fw_c c))
          | 0, 3, (0, _, c) => (0 ≤ fw_c c ∧ fw_c c ≤ 1) ∧ K S (ab_ups σ k j (fw_c c))
          | 1, 1, (1, _, c) => K S (ab_ups σ k j (fw_d c))
          | 4, 4, (4, _, c) => K S (ab_ups σ k j c)
          | 4, 4, (3, _, _) => K S (ab_ups σ k j (-1))
          | _, _, _ => False)
        | none => False
      | _, _ => False
    | _ => False
  | .iaload => fw_ald sh 0 0 len S σ K
  | .laload => fw_ald sh 1 1 len S σ K
  | .baload => match S with
    | _ :: (2, k, _) :: _ => fw_if ((fw_ty sh k).beq 2 || (fw_ty sh k).beq 3) (fw_ald sh (fw_ty sh k) 0 len S σ K)
    | _ => False
  | .iastore => fw_ast sh 0 0 len S σ K
  | .lastore => fw_ast sh 1 1 len S σ K
  | .bastore => match S with
    | _ :: _ :: (2, k, _) :: _ => fw_if ((fw_ty sh k).beq 2 || (fw_ty sh k).beq 3) (fw_ast sh (fw_ty sh k) 0 len S σ K)
    | _ => False
  | .arraylength => match S with
    | (2, k, _) :: S => match sh[k]? with
      | some (.inr a) => fw_if (len.beq 1 && a.1.ble 3) (K ((0, 0, (a.2 : Int)) :: S) σ)
      | _ => False
    | _ => False
  | _ => False
section
variable {p : Program} {l : Launch} {e : Env} {R : Room} {s : State} {m : MethodId} {args : Array Value} {below : List Frame} {meth : Method} {c : Code} {H : Heap} {locs : List Loc} {cells slots : Nat} {Q : State → Prop} {cc : ByteArray} {pc : Nat} {ls : Array Slot} {st : List Value}
variable {ad wr cr : Nat → Nat} {cy : Nat → ClassId} {S : List ab_AV} {own : String} {i : Instr} {len : Nat} {D : va_G} {cl : List vw_C} {sh : List ab_SP} {A : Nat → Prop} {H0 : Heap} {Ts : List Jvm.Cond} {PF : ab_PT} {σ : ab_SG} {K : fw_KH}
theorem fw_idx {x : Int} {n : Nat} (hn : n.ble 2147483647 = true) (h : 0 ≤ fw_c x ∧ fw_c x < (n : Int)) : vp_in (Int32.ofInt x) n ∧ (Int32.ofInt x).toNatClampNeg = (fw_c x).toNat := by
  have h9 := Nat.le_of_ble_eq_true hn
  obtain ⟨g1, g2⟩ := ab_idx (x := fw_c x) (n := n) h.1 h.2 (by omega)
  rw [fw_c_of] at g1 g2
  exact ⟨g1, g2⟩
/-- what follows a step that touches the heap -/
def fw_go (p : Program) (l : Launch) (e : Env) (R : Room) (s : State) (m : MethodId) (args : Array Value) (below : List Frame) (meth : Method) (c : Code) (cells slots : Nat) (Q : State → Prop) (ad wr cr : Nat → Nat) (cy : Nat → ClassId) (D : va_G) (cl : List vw_C) (sh : List ab_SP) (A : Nat → Prop) (H0 : Heap) (K : fw_KH) (pc : Nat) (ls : Array Slot) : Prop :=
  ∀ (S' : List ab_AV) (σ' : ab_SG) (H' : Heap) (locs' : List Loc) (st' : List Value), K S' σ' → va_P D cl (ab_WD cy ad wr sh σ') H' → va_S A H0 H' locs' → fw_okS ad wr cr S' st' → W p l e R s m args below meth c H' locs' cells slots Q (F0 m pc ls st')
theorem fw_ald_ok {t tag : Nat} (htt : (t = 0 ∧ tag = 0 ∧ i = .iaload) ∨ (t = 1 ∧ tag = 1 ∧ i = .laload) ∨ (tag = 0 ∧ i = .baload)) (hx : p.tables.exec = Jvm.exec) (hb : c.code = cc) (hKK : va_K D cl (ab_tys cy) s)
    (hty : i = .baload → t = 2 ∨ t = 3) (h : fw_ald sh t tag len S σ K) (hdg : decode cc pc = .ok (i, len)) (hS : fw_okS ad wr cr S st) (hP : va_P D cl (ab_WD cy ad wr sh σ) H) (hSS : va_S A H0 H locs)
    (kk : fw_go p l e R s m args below meth c cells slots Q ad wr cr cy D cl sh A H0 K (pc + len) ls) : W p l e R s m args below meth c H locs cells slots Q (F0 m pc ls st) := by
  unfold fw_ald at h
  split at h
  · rename_i s9 x9 k9 z9 S9
    split at h
    · rename_i n9 hn9
      have h0 := fw_if_ok h
      clear h
      obtain ⟨g, hin, h⟩ := h0
      rw [Bool.and_eq_true] at g
      have := ab_beq g.1; subst this
      obtain ⟨st1, rfl, hS1⟩ := fw_pop0 hS
      obtain ⟨st2, rfl, hS2⟩ := fw_pop hS1
      obtain ⟨i1, i2⟩ := fw_idx g.2 hin
      have ha := ab_WD_get (cy := cy) (ad := ad) (wr := wr) (σ := σ) (ab_arr_ok hn9)
      rcases htt with ⟨rfl, rfl, rfl⟩ | ⟨rfl, rfl, rfl⟩ | ⟨rfl, rfl⟩
      · refine va_iald hx hb hKK hP k9 0 ha rfl i1 hdg ?_
        show W _ _ _ _ _ _ _ _ _ _ _ _ _ _ _ (F0 m (pc + 1) ls (.int (Int32.ofInt (σ k9 (Int32.ofInt x9).toNatClampNeg)) :: st2))
        rw [i2]
        exact kk _ σ H locs _ h hP hSS (fw_push0 hS2)
      · refine va_lald hx hb hKK hP k9 1 ha rfl i1 hdg ?_
        show W _ _ _ _ _ _ _ _ _ _ _ _ _ _ _ (F0 m (pc + 1) ls (.long (Int64.ofInt (σ k9 (Int32.ofInt x9).toNatClampNeg)) :: st2))
        rw [i2]
        exact kk _ σ H locs _ h hP hSS (fw_push1 hS2)
      · rcases hty rfl with rfl | rfl
        · refine va_bald hx hb hKK hP k9 2 ha rfl i1 hdg ?_
          show W _ _ _ _ _ _ _ _ _ _ _ _ _ _ _ (F0 m (pc + 1) ls (.int (Int32.ofInt (σ k9 (Int32.ofInt x9).toNatClampNeg)) :: st2))
          rw [i2]
          exact kk _ σ H locs _ h hP hSS (fw_push0 hS2)
        · refine va_zald hx hb hKK hP k9 3 ha rfl i1 hdg ?_
          show W _ _ _ _ _ _ _ _ _ _ _ _ _ _ _ (F0 m (pc + 1) ls (.int (Int32.ofInt (σ k9 (Int32.ofInt x9).toNatClampNeg)) :: st2))
          rw [i2]
          exact kk _ σ H locs _ h hP hSS (fw_push0 hS2)
    · exact h.elim
  · exact h.elim
theorem fw_b_of (v : Int) : Int32.ofInt (fw_b v) = vp_nar .byte (Int32.ofInt v) := by
  unfold fw_b
  rw [vp_nar_byte, Int32.ofInt_toInt, Int32.toInt8_ofInt]
theorem fw_z_of {v : Int} (h : 0 ≤ fw_c v ∧ fw_c v ≤ 1) : Int32.ofInt (fw_c v) = vp_nar .boolean (Int32.ofInt v) := by
  rw [← ab_nar_z h.1 h.2, fw_c_of]
theorem fw_ast_ok {t tag : Nat} (htt : (t = 0 ∧ tag = 0 ∧ i = .iastore) ∨ (t = 1 ∧ tag = 1 ∧ i = .lastore) ∨ (tag = 0 ∧ i = .bastore)) (hx : p.tables.exec = Jvm.exec) (hb : c.code = cc) (hKK : va_K D cl (ab_tys cy) s) (hD : ∀ σ, va_D A (ab_WD cy ad wr sh σ))
    (hty : i = .bastore → t = 2 ∨ t = 3) (h : fw_ast sh t tag len S σ K) (hdg : decode cc pc = .ok (i, len)) (hS : fw_okS ad wr cr S st) (hP : va_P D cl (ab_WD cy ad wr sh σ) H) (hSS : va_S A H0 H locs)
    (kk : fw_go p l e R s m args below meth c cells slots Q ad wr cr cy D cl sh A H0 K (pc + len) ls) : W p l e R s m args below meth c H locs cells slots Q (F0 m pc ls st) := by
  unfold fw_ast at h
  split at h
  · rename_i tg9 w9 v9 s9 x9 k9 z9 S9
    split at h
    · rename_i n9 hn9
      have h0 := fw_if_ok h
      clear h
      obtain ⟨g, hin, hso, h⟩ := h0
      rw [Bool.and_eq_true, Bool.and_eq_true] at g
      have := ab_beq g.1.1; subst this
      have := ab_beq g.2; subst this
      obtain ⟨i1, i2⟩ := fw_idx g.1.2 hin
      have hsh := ab_arr_ok hn9
      have ha := ab_WD_get (cy := cy) (ad := ad) (wr := wr) (σ := σ) hsh
      have fin : ∀ (H1 : Heap) (locs1 : List Loc) (x : va_E) (st3 : List Value), fw_okS ad wr cr S9 st3 → x = ab_cell cy ad wr (.inr (t, n9)) (ab_ups σ k9 (fw_c x9).toNat (fw_sv t v9) k9) → va_P D cl ((ab_WD cy ad wr sh σ).set k9 (ad k9, x)) H1 → va_S A H0 H1 locs1 → W p l e R s m args below meth c H1 locs1 cells slots Q (F0 m (pc + 1) ls st3) := by
        intro H1 locs1 x st3 hS3 hx1 hP1 hS1'
        rw [ab_WD_set (σ' := ab_ups σ k9 (fw_c x9).toNat (fw_sv t v9)) hsh hx1 (fun a ha9 => ab_ups_row ha9)] at hP1
        exact kk _ _ H1 locs1 st3 h hP1 hS1' hS3
      rcases htt with ⟨rfl, rfl, rfl⟩ | ⟨rfl, rfl, rfl⟩ | ⟨rfl, rfl⟩
      · obtain ⟨st1, rfl, hS1⟩ := fw_pop0 hS
        obtain ⟨st2, rfl, hS2⟩ := fw_pop0 hS1
        obtain ⟨st3, rfl, hS3⟩ := fw_pop hS2
        refine va_iast hx hb hKK hP (hD σ) hSS k9 0 ha rfl i1 hdg (fun H1 locs1 hP1 _ hS1' => fin H1 locs1 _ st3 hS3 ?_ hP1 hS1')
        show _ = Sum.inl (cy 0, (n9, Sum.inl (fun j => Int32.ofInt (ab_ups σ k9 (fw_c x9).toNat (fw_c v9) k9 j))))
        rw [ab_row32, i2, fw_c_of]
      · obtain ⟨st1, rfl, hS1⟩ := fw_pop1 hS
        obtain ⟨st2, rfl, hS2⟩ := fw_pop0 hS1
        obtain ⟨st3, rfl, hS3⟩ := fw_pop hS2
        refine va_last hx hb hKK hP (hD σ) hSS k9 1 ha rfl i1 hdg (fun H1 locs1 hP1 _ hS1' => fin H1 locs1 _ st3 hS3 ?_ hP1 hS1')
        show _ = Sum.inl (cy 1, (n9, Sum.inr (Sum.inl (fun j => Int64.ofInt (ab_ups σ k9 (fw_c x9).toNat (fw_d v9) k9 j)))))
        rw [ab_row64, i2, fw_d_of]
      · obtain ⟨st1, rfl, hS1⟩ := fw_pop0 hS
        obtain ⟨st2, rfl, hS2⟩ := fw_pop0 hS1
        obtain ⟨st3, rfl, hS3⟩ := fw_pop hS2
        rcases hty rfl with rfl | rfl
        · refine va_bast hx hb hKK hP (hD σ) hSS k9 2 ha rfl i1 hdg (fun H1 locs1 hP1 _ hS1' => fin H1 locs1 _ st3 hS3 ?_ hP1 hS1')
          show _ = Sum.inl (cy 2, (n9, Sum.inl (fun j => Int32.ofInt (ab_ups σ k9 (fw_c x9).toNat (fw_b v9) k9 j))))
          rw [ab_row32, i2, fw_b_of]
        · refine va_zast hx hb hKK hP (hD σ) hSS k9 3 ha rfl i1 hdg (fun H1 locs1 hP1 _ hS1' => fin H1 locs1 _ st3 hS3 ?_ hP1 hS1')
          show _ = Sum.inl (cy 3, (n9, Sum.inl (fun j => Int32.ofInt (ab_ups σ k9 (fw_c x9).toNat (fw_c v9) k9 j))))
          rw [ab_row32, i2, fw_z_of hso]
    · exact h.elim
  · exact h.elim
theorem fw_put_ok {x k ci j ty : Nat} {fs : List (Nat × Nat)} {f : Nat × Nat} {v : ab_AV} {y : Int} {z : Int} {S9 : List ab_AV} (hx : p.tables.exec = Jvm.exec) (hb : c.code = cc) (hown : s.vm.findClass own = some m.cls) (hts : ∀ w ∈ Ts, w.before args s = true) (hKK : va_K D cl (ab_tys cy) s) (hD : ∀ σ, va_D A (ab_WD cy ad wr sh σ)) (hPF : ∀ q ∈ PF, ab_fok cl Ts own q)
    (h1 : ab_pf PF x = some (ci, j, ty)) (h2 : sh[k]? = some (.inl (ci, fs))) (h3 : fs[j]? = some f) (hf : ab_fin cl ci j = true) (hdg : decode cc pc = .ok (.putfield x, 3)) (hS : fw_okS ad wr cr (v :: (2, k, z) :: S9) st) (hP : va_P D cl (ab_WD cy ad wr sh σ) H) (hSS : va_S A H0 H locs)
    (hv : ab_V ad wr cr fw_z v = ab_fv ad wr f y) (hn : narrow (ab_ft ty) (ab_fv ad wr f y) = ab_fv ad wr f y) (hfit : fits (ab_ft ty) (ab_fv ad wr f y) = true) (h : K S9 (ab_ups σ k j y))
    (kk : fw_go p l e R s m args below meth c cells slots Q ad wr cr cy D cl sh A H0 K (pc + 3) ls) : W p l e R s m args below meth c H locs cells slots Q (F0 m pc ls st) := by
  obtain ⟨st1, rfl, hS1⟩ := fw_pop hS
  obtain ⟨st2, rfl, hS2⟩ := fw_pop hS1
  rw [hv]
  exact ab_putf_ok (σ := σ) hx hb hown hts hKK hD hPF h1 h2 h3 hf hn hfit hdg hP hSS (fun H1 locs1 hP1 hS1' => kk _ _ H1 locs1 st2 h hP1 hS1' hS2)
set_option maxHeartbeats 4000000 in
theorem fw_hp_ok (hx : p.tables.exec = Jvm.exec) (hb : c.code = cc) (hown : s.vm.findClass own = some m.cls) (hts : ∀ w ∈ Ts, w.before args s = true) (hKK : va_K D cl (ab_tys cy) s) (hD : ∀ σ, va_D A (ab_WD cy ad wr sh σ)) (hPF : ∀ q ∈ PF, ab_fok cl Ts own q)
    (h : fw_hp cl sh PF i len S σ K) (hdg : decode cc pc = .ok (i, len)) (hS : fw_okS ad wr cr S st) (hP : va_P D cl (ab_WD cy ad wr sh σ) H) (hSS : va_S A H0 H locs)
    (kk : fw_go p l e R s m args below meth c cells slots Q ad wr cr cy D cl sh A H0 K (pc + len) ls) : W p l e R s m args below meth c H locs cells slots Q (F0 m pc ls st) := by
  unfold fw_hp at h
  split at h
  · split at h
    · rename_i x9 w9 k9 z9 S9
      split at h
      · rename_i ci9 j9 ty9 cj9 fs9 h1 h2
        split at h
        · rename_i f9 h3
          have h0 := fw_if_ok h
          clear h
          obtain ⟨g, h⟩ := h0
          rw [Bool.and_eq_true] at g
          have := ab_beq g.1; subst this
          have := ab_beq g.2; subst this
          obtain ⟨f1, f2⟩ := f9
          obtain ⟨st1, rfl, hS1⟩ := fw_pop hS
          match f1, h, h3 with
          | 0, h, h3 => exact ab_getf_ok (σ := σ) hx hb hown hts hKK hPF h1 h2 h3 hdg hP (kk _ σ H locs _ h hP hSS (fw_push0 hS1))
          | 1, h, h3 => exact ab_getf_ok (σ := σ) hx hb hown hts hKK hPF h1 h2 h3 hdg hP (kk _ σ H locs _ h hP hSS (fw_push1 hS1))
          | 2, h, h3 => exact ab_getf_ok (σ := σ) hx hb hown hts hKK hPF h1 h2 h3 hdg hP (kk _ σ H locs _ h hP hSS (fw_push (a := (2, f2, 0)) hS1))
          | 3, h, h3 => exact ab_getf_ok (σ := σ) hx hb hown hts hKK hPF h1 h2 h3 hdg hP (kk _ σ H locs _ h hP hSS (fw_push (a := (3, 0, 0)) hS1))
          | n + 4, h, h3 =>
            have hk := kk _ σ H locs _ h hP hSS (fw_push (a := (4, 0, σ k9 j9)) hS1)
            rw [fw_V4] at hk
            exact ab_getf_ok (σ := σ) hx hb hown hts hKK hPF h1 h2 h3 hdg hP hk
        · exact h.elim
      · exact h.elim
    · exact h.elim
  · split at h
    · rename_i x9 w9 v9 k9 z9 S9
      split at h
      · rename_i ci9 j9 ty9 cj9 fs9 h1 h2
        split at h
        · rename_i f9 h3
          have h0 := fw_if_ok h
          clear h
          obtain ⟨g, h⟩ := h0
          rw [Bool.and_eq_true, Bool.and_eq_true] at g
          have := ab_beq g.1.1; subst this
          have := ab_beq g.1.2; subst this
          obtain ⟨f1, f2⟩ := f9
          split at h
          · rename_i e1
            have e1 : f1 = 0 := e1
            subst e1
            exact fw_put_ok hx hb hown hts hKK hD hPF h1 h2 h3 g.2 hdg hS hP hSS (by rw [fw_V0]; show _ = Value.int (Int32.ofInt _); rw [fw_c_of]) rfl rfl h kk
          · rename_i e1
            have e1 : f1 = 0 := e1
            subst e1
            obtain ⟨z1, z2⟩ := ab_nar_zv h.1.1 h.1.2
            exact fw_put_ok hx hb hown hts hKK hD hPF h1 h2 h3 g.2 hdg hS hP hSS (by rw [fw_V0]; show _ = Value.int (Int32.ofInt _); rw [fw_c_of]) z1 z2 h.2 kk
          · rename_i e1
            have e1 : f1 = 1 := e1
            subst e1
            exact fw_put_ok hx hb hown hts hKK hD hPF h1 h2 h3 g.2 hdg hS hP hSS (by rw [fw_V1]; show _ = Value.long (Int64.ofInt _); rw [fw_d_of]) rfl rfl h kk
          · rename_i s9 c9 e1
            have e1 : f1 = 4 := e1
            subst e1
            exact fw_put_ok (y := c9) hx hb hown hts hKK hD hPF h1 h2 h3 g.2 hdg hS hP hSS (by rw [fw_V4]; rfl) (by show narrow (.object _) (ab_wv wr c9) = ab_wv wr c9; cases c9 <;> rfl) (by show fits (.object _) (ab_wv wr c9) = true; cases c9 <;> rfl) h kk
          · rename_i e1
            have e1 : f1 = 4 := e1
            subst e1
            exact fw_put_ok (y := -1) hx hb hown hts hKK hD hPF h1 h2 h3 g.2 hdg hS hP hSS rfl rfl rfl h kk
          · exact h.elim
        · exact h.elim
      · exact h.elim
    · exact h.elim
  · exact fw_ald_ok (Or.inl ⟨rfl, rfl, rfl⟩) hx hb hKK (fun q => by cases q) h hdg hS hP hSS kk
  · exact fw_ald_ok (Or.inr (Or.inl ⟨rfl, rfl, rfl⟩)) hx hb hKK (fun q => by cases q) h hdg hS hP hSS kk
  · split at h
    · have h0 := fw_if_ok h
      clear h
      obtain ⟨g, h⟩ := h0
      rw [Bool.or_eq_true] at g
      exact fw_ald_ok (Or.inr (Or.inr ⟨rfl, rfl⟩)) hx hb hKK (fun _ => g.imp ab_beq ab_beq) h hdg hS hP hSS kk
    · exact h.elim
  · exact fw_ast_ok (Or.inl ⟨rfl, rfl, rfl⟩) hx hb hKK hD (fun q => by cases q) h hdg hS hP hSS kk
  · exact fw_ast_ok (Or.inr (Or.inl ⟨rfl, rfl, rfl⟩)) hx hb hKK hD (fun q => by cases q) h hdg hS hP hSS kk
  · split at h
    · have h0 := fw_if_ok h
      clear h
      obtain ⟨g, h⟩ := h0
      rw [Bool.or_eq_true] at g
      exact fw_ast_ok (Or.inr (Or.inr ⟨rfl, rfl⟩)) hx hb hKK hD (fun _ => g.imp ab_beq ab_beq) h hdg hS hP hSS kk
    · exact h.elim
  · split at h
    · rename_i k9 z9 S9
      split at h
      · rename_i a9 h1
        have h0 := fw_if_ok h
        clear h
        obtain ⟨g, h⟩ := h0
        rw [Bool.and_eq_true] at g
        have := ab_beq g.1; subst this
        obtain ⟨st1, rfl, hS1⟩ := fw_pop hS
        obtain ⟨a1, a2⟩ := a9
        have ha := ab_WD_get (cy := cy) (ad := ad) (wr := wr) (σ := σ) h1
        have h3 : a1 ≤ 3 := Nat.le_of_ble_eq_true g.2
        have hk := kk _ σ H locs _ h hP hSS (fw_push0 (c := (a2 : Int)) hS1)
        match a1, h3 with
        | 0, _ => exact va_alen hx hb hKK hP k9 0 ha rfl rfl hdg hk
        | 1, _ => exact va_alen hx hb hKK hP k9 1 ha rfl rfl hdg hk
        | 2, _ => exact va_alen hx hb hKK hP k9 2 ha rfl rfl hdg hk
        | 3, _ => exact va_alen hx hb hKK hP k9 3 ha rfl rfl hdg hk
      · exact h.elim
    · exact h.elim
  · exact h.elim
end
