def ab_tys (cy : Nat → ClassId) : List (ClassId × FieldType) := [(cy 0, .int), (cy 1, .long), (cy 2, .byte), (cy 3, .boolean)]
theorem ab_nar_b {x : Int} (h1 : -128 ≤ x) (h2 : x ≤ 127) : vp_nar .byte (Int32.ofInt x) = Int32.ofInt x := by
  rw [vp_nar_byte]
  apply Int32.toInt_inj.mp
  rw [Int8.toInt_toInt32, Int32.toInt_toInt8, Int32.toInt_ofInt_of_le (by omega) (by omega)]
  exact Int.bmod_eq_of_le (by omega) (by omega)
theorem ab_01 {x : Int} (h1 : 0 ≤ x) (h2 : x ≤ 1) : x = 0 ∨ x = 1 := by omega
theorem ab_nar_z {x : Int} (h1 : 0 ≤ x) (h2 : x ≤ 1) : vp_nar .boolean (Int32.ofInt x) = Int32.ofInt x := by
  rcases ab_01 h1 h2 with rfl | rfl <;> rfl
theorem ab_nar_zv {x : Int} (h1 : 0 ≤ x) (h2 : x ≤ 1) : narrow .boolean (.int (Int32.ofInt x)) = .int (Int32.ofInt x) ∧ fits .boolean (.int (Int32.ofInt x)) = true := by
  rcases ab_01 h1 h2 with rfl | rfl <;> exact ⟨rfl, rfl⟩
theorem ab_arr_ok {sh : List ab_SP} {t k n : Nat} (h : ab_arr sh t k = some n) : sh[k]? = some (.inr (t, n)) := by
  unfold ab_arr at h
  split at h
  · rename_i a9 ha9
    obtain ⟨h1, h2⟩ := ab_cs h
    have h3 := ab_beq h1
    obtain ⟨a1, a2⟩ := a9
    have h3 : a1 = t := h3
    have h2 : a2 = n := h2
    subst h3; subst h2
    exact ha9
  · cases h
section
variable {p : Program} {l : Launch} {e : Env} {R : Room} {s : State} {m : MethodId} {args : Array Value} {below : List Frame} {meth : Method} {c : Code} {H : Heap} {locs : List Loc} {cells slots : Nat} {Q : State → Prop} {cc : ByteArray} {pc : Nat} {ls : Array Slot} {st : List Value}
variable {ad wr cr : Nat → Nat} {cy : Nat → ClassId} {nL : Nat} {T : ab_RG} {C : ab_CT} {σ0 σ : ab_SG} {B B' : ab_BD} {F : ab_FT} {Dl Dl' : ab_DL} {M M' : ab_ML} {ρ : Nat → Int} {L : ab_LS} {S S' : List ab_AV} {own : String} {i : Instr} {len : Nat} {D : va_G} {cl : List vw_C} {sh : List ab_SP} {A : Nat → Prop} {H0 : Heap} {Ts : List Jvm.Cond} {PF : ab_PT}
/-- the step's end, said once -/
def ab_go (p : Program) (l : Launch) (e : Env) (R : Room) (s : State) (m : MethodId) (args : Array Value) (below : List Frame) (meth : Method) (c : Code) (cells slots : Nat) (Q : State → Prop) (ad wr cr : Nat → Nat) (cy : Nat → ClassId) (T : ab_RG) (C : ab_CT) (σ0 : ab_SG) (D : va_G) (cl : List vw_C) (sh : List ab_SP) (A : Nat → Prop) (H0 : Heap) (n : Nat) (ρ : Nat → Int) (F : ab_FT) (S' : List ab_AV) (B' : ab_BD) (Dl' : ab_DL) (M' : ab_ML) (pc : Nat) (ls : Array Slot) : Prop :=
  ∀ (ρ' : Nat → Int) (σ' : ab_SG) (H' : Heap) (locs' : List Loc) (st' : List Value), ab_K T C σ0 B' F Dl' M' ρ' σ' → n ≤ B'.length → (∀ i, i < n → ρ' i = ρ i) → va_P D cl (ab_WD cy ad wr sh σ') H' → va_S A H0 H' locs' → ab_okS ad wr cr B'.length ρ' S' st' → W p l e R s m args below meth c H' locs' cells slots Q (F0 m pc ls st')
theorem ab_ald_ok {t tag : Nat} (htt : (t = 0 ∧ tag = 0 ∧ i = .iaload) ∨ (t = 1 ∧ tag = 1 ∧ i = .laload) ∨ (t = 2 ∧ tag = 0 ∧ i = .baload) ∨ (t = 3 ∧ tag = 0 ∧ i = .baload)) (hx : p.tables.exec = Jvm.exec) (hb : c.code = cc) (hKK : va_K D cl (ab_tys cy) s)
    (h : ab_ald T sh t tag len S B Dl M = some (S', B', Dl', M')) (hdg : decode cc pc = .ok (i, len)) (hK : ab_K T C σ0 B F Dl M ρ σ) (hS : ab_okS ad wr cr B.length ρ S st) (hP : va_P D cl (ab_WD cy ad wr sh σ) H) (hSS : va_S A H0 H locs)
    (kk : ab_go p l e R s m args below meth c cells slots Q ad wr cr cy T C σ0 D cl sh A H0 B.length ρ F S' B' Dl' M' (pc + len) ls) : W p l e R s m args below meth c H locs cells slots Q (F0 m pc ls st) := by
  unfold ab_ald at h
  split at h
  · rename_i s9 c9 k9 z9 S9
    split at h
    · rename_i n9 hn9
      split at h
      · rename_i a9 b9 hab9
        split at h
        · rename_i q9 B9 Dl9 hg9
          obtain ⟨g, h⟩ := ab_cs h
          have := ab_beq g; subst this
          cases h
          obtain ⟨st1, rfl, hs1, hS1⟩ := ab_okS_pop hS
          obtain ⟨st2, rfl, hs2, hS2⟩ := ab_okS_pop hS1
          obtain ⟨i1, i2, i3, i4⟩ := ab_ix_ok hK.1 hs1 hab9
          obtain ⟨ρ', r1, r2, r3, r4, r5⟩ := ab_get_ok hK hg9 i3 i4 (ab_cx_ok hs1)
          have ha := ab_WD_get (cy := cy) (ad := ad) (wr := wr) (σ := σ) (ab_arr_ok hn9)
          have hS3 := ab_okS_ext hS2 r2 r3
          rcases htt with ⟨rfl, rfl, rfl⟩ | ⟨rfl, rfl, rfl⟩ | ⟨rfl, rfl, rfl⟩ | ⟨rfl, rfl, rfl⟩
          · refine va_iald hx hb hKK hP k9 0 ha rfl i1 hdg ?_
            have := kk ρ' σ H locs (.int (Int32.ofInt (ρ' q9.1 + q9.2)) :: st2) r1 r2 r3 hP hSS (ab_okS_push (a := (0, q9.1, q9.2)) hS3 r4)
            rw [r5] at this
            show W _ _ _ _ _ _ _ _ _ _ _ _ _ _ _ (F0 m (pc + 1) ls (.int (Int32.ofInt (σ k9 (Int32.ofInt (ρ s9 + c9)).toNatClampNeg)) :: st2))
            rw [i2]
            exact this
          · refine va_lald hx hb hKK hP k9 1 ha rfl i1 hdg ?_
            have := kk ρ' σ H locs (.long (Int64.ofInt (ρ' q9.1 + q9.2)) :: st2) r1 r2 r3 hP hSS (ab_okS_push (a := (1, q9.1, q9.2)) hS3 r4)
            rw [r5] at this
            show W _ _ _ _ _ _ _ _ _ _ _ _ _ _ _ (F0 m (pc + 1) ls (.long (Int64.ofInt (σ k9 (Int32.ofInt (ρ s9 + c9)).toNatClampNeg)) :: st2))
            rw [i2]
            exact this
          · refine va_bald hx hb hKK hP k9 2 ha rfl i1 hdg ?_
            have := kk ρ' σ H locs (.int (Int32.ofInt (ρ' q9.1 + q9.2)) :: st2) r1 r2 r3 hP hSS (ab_okS_push (a := (0, q9.1, q9.2)) hS3 r4)
            rw [r5] at this
            show W _ _ _ _ _ _ _ _ _ _ _ _ _ _ _ (F0 m (pc + 1) ls (.int (Int32.ofInt (σ k9 (Int32.ofInt (ρ s9 + c9)).toNatClampNeg)) :: st2))
            rw [i2]
            exact this
          · refine va_zald hx hb hKK hP k9 3 ha rfl i1 hdg ?_
            have := kk ρ' σ H locs (.int (Int32.ofInt (ρ' q9.1 + q9.2)) :: st2) r1 r2 r3 hP hSS (ab_okS_push (a := (0, q9.1, q9.2)) hS3 r4)
            rw [r5] at this
            show W _ _ _ _ _ _ _ _ _ _ _ _ _ _ _ (F0 m (pc + 1) ls (.int (Int32.ofInt (σ k9 (Int32.ofInt (ρ s9 + c9)).toNatClampNeg)) :: st2))
            rw [i2]
            exact this
        · cases h
      · cases h
    · cases h
  · cases h
theorem ab_ast_ok {t tag : Nat} (htt : (t = 0 ∧ tag = 0 ∧ i = .iastore) ∨ (t = 1 ∧ tag = 1 ∧ i = .lastore) ∨ (t = 2 ∧ tag = 0 ∧ i = .bastore) ∨ (t = 3 ∧ tag = 0 ∧ i = .bastore)) (hx : p.tables.exec = Jvm.exec) (hb : c.code = cc) (hKK : va_K D cl (ab_tys cy) s) (hD : ∀ σ, va_D A (ab_WD cy ad wr sh σ))
    (h : ab_ast T C sh t tag len S B F Dl M = some (S', B', Dl', M')) (hdg : decode cc pc = .ok (i, len)) (hK : ab_K T C σ0 B F Dl M ρ σ) (hS : ab_okS ad wr cr B.length ρ S st) (hP : va_P D cl (ab_WD cy ad wr sh σ) H) (hSS : va_S A H0 H locs)
    (kk : ab_go p l e R s m args below meth c cells slots Q ad wr cr cy T C σ0 D cl sh A H0 B.length ρ F S' B' Dl' M' (pc + len) ls) : W p l e R s m args below meth c H locs cells slots Q (F0 m pc ls st) := by
  unfold ab_ast at h
  split at h
  · rename_i tg9 v9 w9 s9 c9 k9 z9 S9
    split at h
    · rename_i n9 hn9
      split at h
      · rename_i a9 b9 hab9
        split at h
        · rename_i Dl9 M9 hg9
          obtain ⟨g, h2⟩ := ab_cs h
          rw [Bool.and_eq_true, Bool.and_eq_true] at g
          have := ab_beq g.1.1; subst this
          have := ab_beq g.1.2; subst this
          cases h2
          obtain ⟨st1, rfl, hs1, hS1⟩ := ab_okS_pop hS
          obtain ⟨st2, rfl, hs2, hS2⟩ := ab_okS_pop hS1
          obtain ⟨st3, rfl, hs3, hS3⟩ := ab_okS_pop hS2
          have hs2 : s9 < B.length := hs2
          have hv9 : v9 < B.length := by rcases htt with ⟨-, rfl, -⟩ | ⟨-, rfl, -⟩ | ⟨-, rfl, -⟩ | ⟨-, rfl, -⟩ <;> exact hs1
          obtain ⟨i1, i2, i3, i4⟩ := ab_ix_ok hK.1 hs2 hab9
          have hK2 := ab_set_ok hK hg9 hv9 i3 i4
          have hsh := ab_arr_ok hn9
          have ha := ab_WD_get (cy := cy) (ad := ad) (wr := wr) (σ := σ) hsh
          have hfb := hK.1 v9 hv9
          have fin : ∀ (H1 : Heap) (locs1 : List Loc) (x : va_E), x = ab_cell cy ad wr (.inr (t, n9)) (ab_ups σ k9 (ρ s9 + c9).toNat (ρ v9 + w9) k9) → va_P D cl ((ab_WD cy ad wr sh σ).set k9 (ad k9, x)) H1 → va_S A H0 H1 locs1 → W p l e R s m args below meth c H1 locs1 cells slots Q (F0 m (pc + 1) ls st3) := by
            intro H1 locs1 x hx1 hP1 hS1'
            rw [ab_WD_set (σ' := ab_ups σ k9 (ρ s9 + c9).toNat (ρ v9 + w9)) hsh hx1 (fun a ha9 => ab_ups_row ha9)] at hP1
            exact kk ρ _ H1 locs1 st3 hK2 (Nat.le_refl _) (fun _ _ => rfl) hP1 hS1' hS3
          rcases htt with ⟨rfl, rfl, rfl⟩ | ⟨rfl, rfl, rfl⟩ | ⟨rfl, rfl, rfl⟩ | ⟨rfl, rfl, rfl⟩
          · refine va_iast hx hb hKK hP (hD σ) hSS k9 0 ha rfl i1 hdg (fun H1 locs1 hP1 _ hS1' => fin H1 locs1 _ ?_ hP1 hS1')
            show _ = Sum.inl (cy 0, (n9, Sum.inl (fun j => Int32.ofInt (ab_ups σ k9 (ρ s9 + c9).toNat (ρ v9 + w9) k9 j))))
            rw [ab_row32, i2]
          · refine va_last hx hb hKK hP (hD σ) hSS k9 1 ha rfl i1 hdg (fun H1 locs1 hP1 _ hS1' => fin H1 locs1 _ ?_ hP1 hS1')
            show _ = Sum.inl (cy 1, (n9, Sum.inr (Sum.inl (fun j => Int64.ofInt (ab_ups σ k9 (ρ s9 + c9).toNat (ρ v9 + w9) k9 j)))))
            rw [ab_row64, i2]
          · have hf : (ab_le (-128) (ab_lo B v9 + w9) && ab_le (ab_hi B v9 + w9) 127) = true := g.2
            rw [Bool.and_eq_true, ab_le_iff, ab_le_iff] at hf
            refine va_bast hx hb hKK hP (hD σ) hSS k9 2 ha rfl i1 hdg (fun H1 locs1 hP1 _ hS1' => fin H1 locs1 _ ?_ hP1 hS1')
            show _ = Sum.inl (cy 2, (n9, Sum.inl (fun j => Int32.ofInt (ab_ups σ k9 (ρ s9 + c9).toNat (ρ v9 + w9) k9 j))))
            rw [ab_row32, i2, ab_nar_b (x := ρ v9 + w9) (by omega) (by omega)]
          · have hf : (ab_le 0 (ab_lo B v9 + w9) && ab_le (ab_hi B v9 + w9) 1) = true := g.2
            rw [Bool.and_eq_true, ab_le_iff, ab_le_iff] at hf
            refine va_zast hx hb hKK hP (hD σ) hSS k9 3 ha rfl i1 hdg (fun H1 locs1 hP1 _ hS1' => fin H1 locs1 _ ?_ hP1 hS1')
            show _ = Sum.inl (cy 3, (n9, Sum.inl (fun j => Int32.ofInt (ab_ups σ k9 (ρ s9 + c9).toNat (ρ v9 + w9) k9 j))))
            rw [ab_row32, i2, ab_nar_z (x := ρ v9 + w9) (by omega) (by omega)]
        · cases h
      · cases h
    · cases h
  · cases h
theorem ab_cell_f {k ci : Nat} {fs : List (Nat × Nat)} {σ : ab_SG} (h : sh[k]? = some (.inl (ci, fs))) : (ab_WD cy ad wr sh σ)[k]? = some (ad k, .inr (ci, fs.mapIdx (fun j f => ab_fv ad wr f (σ k j)))) := ab_WD_get h
theorem ab_getf_ok (hx : p.tables.exec = Jvm.exec) (hb : c.code = cc) (hown : s.vm.findClass own = some m.cls) (hts : ∀ w ∈ Ts, w.before args s = true) (hKK : va_K D cl (ab_tys cy) s) (hPF : ∀ q ∈ PF, ab_fok cl Ts own q) {x k ci j : Nat} {ty : Nat} {fs : List (Nat × Nat)} {f : Nat × Nat} (h1 : ab_pf PF x = some (ci, j, ty)) (h2 : sh[k]? = some (.inl (ci, fs))) (h3 : fs[j]? = some f)
    (hdg : decode cc pc = .ok (.getfield x, 3)) (hP : va_P D cl (ab_WD cy ad wr sh σ) H) (kk : W p l e R s m args below meth c H locs cells slots Q (F0 m (pc + 3) ls (ab_fv ad wr f (σ k j) :: st))) : W p l e R s m args below meth c H locs cells slots Q (F0 m pc ls (.ref (ad k) :: st)) := by
  obtain ⟨C9, T9, N9, q1, q2, q3, q4, -, -, -⟩ := hPF _ (ab_pf_mem h1)
  exact va_get (ref := (T9 j).1) hx hb hts q3 hown hKK hP k (ab_cell_f h2) q1 j q2 (hts _ q4) (fun _ h9 => h9) (ab_fs_get (row := σ k) h3) hdg kk
theorem ab_putf_ok (hx : p.tables.exec = Jvm.exec) (hb : c.code = cc) (hown : s.vm.findClass own = some m.cls) (hts : ∀ w ∈ Ts, w.before args s = true) (hKK : va_K D cl (ab_tys cy) s) (hD : ∀ σ, va_D A (ab_WD cy ad wr sh σ)) (hPF : ∀ q ∈ PF, ab_fok cl Ts own q) {x k ci j : Nat} {ty : Nat} {fs : List (Nat × Nat)} {f : Nat × Nat} {y : Int} (h1 : ab_pf PF x = some (ci, j, ty)) (h2 : sh[k]? = some (.inl (ci, fs))) (h3 : fs[j]? = some f) (hfin : ab_fin cl ci j = true)
    (hn : narrow (ab_ft ty) (ab_fv ad wr f y) = ab_fv ad wr f y) (hfit : fits (ab_ft ty) (ab_fv ad wr f y) = true)
    (hdg : decode cc pc = .ok (.putfield x, 3)) (hP : va_P D cl (ab_WD cy ad wr sh σ) H) (hSS : va_S A H0 H locs) (kk : ∀ (H1 : Heap) (locs1 : List Loc), va_P D cl (ab_WD cy ad wr sh (ab_ups σ k j y)) H1 → va_S A H0 H1 locs1 → W p l e R s m args below meth c H1 locs1 cells slots Q (F0 m (pc + 3) ls st)) : W p l e R s m args below meth c H locs cells slots Q (F0 m pc ls (ab_fv ad wr f y :: .ref (ad k) :: st)) := by
  obtain ⟨C9, T9, N9, q1, q2, q3, q4, ⟨ty0, q5⟩, q6, q7⟩ := hPF _ (ab_pf_mem h1)
  have q1 : cl[ci]? = some (C9, T9, N9) := q1
  have hfin2 : (T9 j).2.2.2 = false := by
    unfold ab_fin at hfin
    rw [q1] at hfin
    exact (Bool.not_eq_true' _).mp hfin
  refine va_put (ref := (T9 j).1) hx hb hts q3 ty0 q5 q6 hown hKK hP (hD σ) hSS k (ab_cell_f h2) q1 j q2 (hts _ q4) (fun _ h9 => h9) hfin2 (q7 hfin2) hn hfit (by rw [List.length_mapIdx]; exact (List.getElem?_eq_some_iff.mp h3).1) hdg (fun H1 locs1 hP1 _ hS1 => ?_)
  rw [ab_WD_set (σ' := ab_ups σ k j y) h2 (by show Sum.inr (ci, _) = Sum.inr (ci, _); rw [ab_fs_set h3]) (fun a ha9 => ab_ups_row ha9)] at hP1
  exact kk H1 locs1 hP1 hS1
set_option maxHeartbeats 4000000 in
theorem ab_hp_ok (hx : p.tables.exec = Jvm.exec) (hb : c.code = cc) (hown : s.vm.findClass own = some m.cls) (hts : ∀ w ∈ Ts, w.before args s = true) (hKK : va_K D cl (ab_tys cy) s) (hD : ∀ σ, va_D A (ab_WD cy ad wr sh σ)) (hPF : ∀ q ∈ PF, ab_fok cl Ts own q)
    (h : ab_hp cl T C sh PF i len S B F Dl M = some (S', B', Dl', M')) (hdg : decode cc pc = .ok (i, len)) (hK : ab_K T C σ0 B F Dl M ρ σ) (hS : ab_okS ad wr cr B.length ρ S st) (hP : va_P D cl (ab_WD cy ad wr sh σ) H) (hSS : va_S A H0 H locs)
    (kk : ab_go p l e R s m args below meth c cells slots Q ad wr cr cy T C σ0 D cl sh A H0 B.length ρ F S' B' Dl' M' (pc + len) ls) : W p l e R s m args below meth c H locs cells slots Q (F0 m pc ls st) := by
  unfold ab_hp at h
  split at h
  · split at h
    · rename_i x9 w9 k9 z9 S9
      obtain ⟨st1, rfl, hs1, hS1⟩ := ab_okS_pop hS
      split at h
      · rename_i ci9 j9 ty9 cj9 fs9 h1 h2
        split at h
        · rename_i f9 h3
          obtain ⟨g, h5⟩ := ab_co h
          rw [Bool.and_eq_true] at g
          have := ab_beq g.1; subst this
          have := ab_beq g.2; subst this
          obtain ⟨f1, f2⟩ := f9
          split at h5
          · rename_i e9
            have e9 : f1 = 2 := e9
            subst e9
            cases h5
            exact ab_getf_ok (σ := σ) hx hb hown hts hKK hPF h1 h2 h3 hdg hP (kk ρ σ H locs _ hK (Nat.le_refl _) (fun _ _ => rfl) hP hSS (ab_okS_push (a := (2, f2, 0)) hS1 trivial))
          · rename_i e9
            have e9 : f1 = 3 := e9
            subst e9
            cases h5
            exact ab_getf_ok (σ := σ) hx hb hown hts hKK hPF h1 h2 h3 hdg hP (kk ρ σ H locs _ hK (Nat.le_refl _) (fun _ _ => rfl) hP hSS (ab_okS_push (a := (3, 0, 0)) hS1 trivial))
          · split at h5
            · rename_i n2 n3 _ q9 B9 Dl9 hg9
              cases h5
              obtain ⟨ρ', r1, r2, r3, r4, r5⟩ := ab_get_ok hK hg9 (Nat.le_refl j9) (Nat.le_refl j9) (fun q => by cases q)
              have hS3 := ab_okS_ext hS1 r2 r3
              have hv : ab_sy B'.length (Nat.min f1 4, q9.1, q9.2) ∧ ab_V ad wr cr ρ' (Nat.min f1 4, q9.1, q9.2) = ab_fv ad wr (f1, f2) (σ k9 j9) := by
                match f1, n2, n3 with
                | 0, _, _ => exact ⟨r4, by show Value.int _ = Value.int _; rw [r5]⟩
                | 1, _, _ => exact ⟨r4, by show Value.long _ = Value.long _; rw [r5]⟩
                | 2, n2, _ => exact absurd rfl n2
                | 3, _, n3 => exact absurd rfl n3
                | n + 4, _, _ =>
                  have e4 : Nat.min (n + 4) 4 = 4 := Nat.min_eq_right (by omega)
                  rw [e4]
                  exact ⟨r4, by show ab_wv wr _ = ab_wv wr _; rw [r5]⟩
              have hk := kk ρ' σ H locs _ r1 r2 r3 hP hSS (ab_okS_push hS3 hv.1)
              rw [hv.2] at hk
              exact ab_getf_ok (σ := σ) hx hb hown hts hKK hPF h1 h2 h3 hdg hP hk
            · cases h5
        · cases h
      · cases h
    · cases h
  · split at h
    · rename_i x9 w9 v9 k9 z9 S9
      have hnw : ∃ u : ab_AV, u = ab_nw v9 := ⟨_, rfl⟩
      obtain ⟨⟨tg9, s9, c9⟩, hu⟩ := hnw
      rw [← hu] at h
      split at h
      · rename_i ci9 j9 ty9 cj9 fs9 h1 h2
        split at h
        · rename_i f9 h3
          split at h
          · rename_i Dl9 M9 hg9
            obtain ⟨g, h4⟩ := ab_cs h
            rw [Bool.and_eq_true, Bool.and_eq_true, Bool.and_eq_true] at g
            obtain ⟨⟨⟨g1, g2⟩, g3⟩, g4⟩ := g
            have := ab_beq g1; subst this
            have := ab_beq g2; subst this
            cases h4
            obtain ⟨st1, rfl, hs1, hS1⟩ := ab_okS_pop hS
            obtain ⟨st2, rfl, hs2, hS2⟩ := ab_okS_pop hS1
            obtain ⟨f1, f2⟩ := f9
            have hnw := ab_nw_ok (ad := ad) (wr := wr) (cr := cr) hK.2.2.1 hK.2.2.2.1 hs1
            rw [← hu] at hnw
            rw [hnw.1]
            have hs1 := hnw.2
            have fin : ∀ (y9 : s9 < B.length), narrow (ab_ft ty9) (ab_fv ad wr (f1, f2) (ρ s9 + c9)) = ab_fv ad wr (f1, f2) (ρ s9 + c9) → fits (ab_ft ty9) (ab_fv ad wr (f1, f2) (ρ s9 + c9)) = true → ab_V ad wr cr ρ (tg9, s9, c9) = ab_fv ad wr (f1, f2) (ρ s9 + c9) → W p l e R s m args below meth c H locs cells slots Q (F0 m pc ls (ab_V ad wr cr ρ (tg9, s9, c9) :: ab_V ad wr cr ρ (2, k9, z9) :: st2)) := by
              intro y9 n1 n2 ev
              have hK2 := ab_set_ok hK hg9 y9 (Nat.le_refl j9) (Nat.le_refl j9)
              rw [ev]
              exact ab_putf_ok (σ := σ) hx hb hown hts hKK hD hPF h1 h2 h3 g3 n1 n2 hdg hP hSS (fun H1 locs1 hP1 hS1' => kk ρ _ H1 locs1 st2 hK2 (Nat.le_refl _) (fun _ _ => rfl) hP1 hS1' hS2)
            rw [Bool.or_eq_true, Bool.or_eq_true, Bool.and_eq_true, Bool.and_eq_true, Bool.and_eq_true, Bool.and_eq_true, Bool.and_eq_true, Bool.and_eq_true, Bool.and_eq_true, Bool.or_eq_true] at g4
            rcases g4 with (⟨⟨⟨a1, a2⟩, a3⟩, a4⟩ | ⟨⟨a1, a2⟩, a3⟩) | ⟨⟨a1, a2⟩, a3⟩
            · have a1 : f1 = 0 := ab_beq a1
              have a2 := ab_beq a2
              subst a1; subst a2
              have hs1 : s9 < B.length := hs1
              rcases a3 with a3 | a3
              · have a3 := ab_beq a3
                subst a3
                exact fin hs1 rfl rfl rfl
              · have a3 := ab_beq a3
                subst a3
                have hf : (ab_le 0 (ab_lo B s9 + c9) && ab_le (ab_hi B s9 + c9) 1) = true := a4
                rw [Bool.and_eq_true, ab_le_iff, ab_le_iff] at hf
                have hb9 := hK.1 s9 hs1
                obtain ⟨z1, z2⟩ := ab_nar_zv (x := ρ s9 + c9) (by omega) (by omega)
                exact fin hs1 z1 z2 rfl
            · have a1 : f1 = 1 := ab_beq a1
              have a2 := ab_beq a2
              have a3 := ab_beq a3
              subst a1; subst a2; subst a3
              exact fin hs1 rfl rfl rfl
            · have a1 : f1 = 4 := ab_beq a1
              have a2 := ab_beq a2
              have a3 := ab_beq a3
              subst a1; subst a2; subst a3
              refine fin hs1 ?_ ?_ rfl
              · show narrow (.object _) (ab_wv wr (ρ s9 + c9)) = ab_wv wr (ρ s9 + c9)
                cases ρ s9 + c9 <;> rfl
              · show fits (.object _) (ab_wv wr (ρ s9 + c9)) = true
                cases ρ s9 + c9 <;> rfl
          · cases h
        · cases h
      · cases h
    · cases h
  · exact ab_ald_ok (Or.inl ⟨rfl, rfl, rfl⟩) hx hb hKK h hdg hK hS hP hSS kk
  · exact ab_ald_ok (Or.inr (Or.inl ⟨rfl, rfl, rfl⟩)) hx hb hKK h hdg hK hS hP hSS kk
  · split at h
    · rename_i r9 hr9
      cases h
      exact ab_ald_ok (Or.inr (Or.inr (Or.inl ⟨rfl, rfl, rfl⟩))) hx hb hKK hr9 hdg hK hS hP hSS kk
    · exact ab_ald_ok (Or.inr (Or.inr (Or.inr ⟨rfl, rfl, rfl⟩))) hx hb hKK h hdg hK hS hP hSS kk
  · exact ab_ast_ok (Or.inl ⟨rfl, rfl, rfl⟩) hx hb hKK hD h hdg hK hS hP hSS kk
  · exact ab_ast_ok (Or.inr (Or.inl ⟨rfl, rfl, rfl⟩)) hx hb hKK hD h hdg hK hS hP hSS kk
  · split at h
    · rename_i r9 hr9
      cases h
      exact ab_ast_ok (Or.inr (Or.inr (Or.inl ⟨rfl, rfl, rfl⟩))) hx hb hKK hD hr9 hdg hK hS hP hSS kk
    · exact ab_ast_ok (Or.inr (Or.inr (Or.inr ⟨rfl, rfl, rfl⟩))) hx hb hKK hD h hdg hK hS hP hSS kk
  · split at h
    · rename_i k9 z9 S9
      split at h
      · rename_i a9 h1
        obtain ⟨g, h4⟩ := ab_cs h
        rw [Bool.and_eq_true] at g
        have := ab_beq g.1; subst this
        cases h4
        obtain ⟨st1, rfl, hs1, hS1⟩ := ab_okS_pop hS
        obtain ⟨a1, a2⟩ := a9
        have ha := ab_WD_get (cy := cy) (ad := ad) (wr := wr) (σ := σ) h1
        have h3 : a1 ≤ 3 := Nat.le_of_ble_eq_true g.2
        have hz : ρ 0 = 0 := hK.2.2.1
        have hk := kk ρ σ H locs _ hK (Nat.le_refl _) (fun _ _ => rfl) hP hSS (ab_okS_push (a := (0, 0, (a2 : Int))) hS1 hK.2.2.2.1)
        rw [show ab_V ad wr cr ρ (0, 0, (a2 : Int)) = .int (Int32.ofNat a2) from congrArg Value.int (by show Int32.ofInt (ρ 0 + (a2 : Int)) = _; rw [hz, Int.zero_add]; rfl)] at hk
        match a1, h3 with
        | 0, _ => exact va_alen hx hb hKK hP k9 0 ha rfl rfl hdg hk
        | 1, _ => exact va_alen hx hb hKK hP k9 1 ha rfl rfl hdg hk
        | 2, _ => exact va_alen hx hb hKK hP k9 2 ha rfl rfl hdg hk
        | 3, _ => exact va_alen hx hb hKK hP k9 3 ha rfl rfl hdg hk
      · cases h
    · cases h
  · cases h
end
