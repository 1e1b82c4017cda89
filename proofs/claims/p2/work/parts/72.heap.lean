def ab_tys (cy : Nat → ClassId) : List (ClassId × FieldType) := [(cy 0, .int), (cy 1, .long), (cy 2, .byte), (cy 3, .boolean)]
theorem ab_nar_b {x : Int} (h1 : -128 ≤ x) (h2 : x ≤ 127) : vp_nar .byte (Int32.ofInt x) = Int32.ofInt x := by
  rw [vp_nar_byte]
  apply Int32.toInt_inj.mp
  rw [Int8.toInt_toInt32, Int32.toInt_toInt8, Int32.toInt_ofInt_of_le (by omega) (by omega)]
  exact Int.bmod_eq_of_le (by omega) (by omega)
theorem ab_01 {x : Int} (h1 : 0 ≤ x) (h2 : x ≤ 1) : x = 0 ∨ x = 1 := by omega
theorem ab_nar_z {x : Int} (h1 : 0 ≤ x) (h2 : x ≤ 1) : vp_nar .boolean (Int32.ofInt x) = Int32.ofInt x := by
  rcases ab_01 h1 h2 with rfl | rfl <;> rfl
theorem ab_nar_zv {x : Int} (h1 : 0 ≤ x) (h2 : x ≤ 1) : narrow .boolean (.int (Int32.ofInt x)) = .int (Int32.ofInt x) ∧ fits .boolean (.int (Int32.ofInt x)) = true := by
  rcases ab_01 h1 h2 with rfl | rfl <;> exact ⟨rfl, rfl⟩
theorem ab_arr_ok {sh : List ab_SP} {t k n : Nat} (h : ab_arr sh t k = some n) : sh[k]? = some (.inr (t, n)) := by
  unfold ab_arr at h
  split at h
  · rename_i a9 ha9
    obtain ⟨h1, h2⟩ := ab_cs h
    have h3 := ab_beq h1
    obtain ⟨a1, a2⟩ := a9
    have h3 : a1 = t := h3
    have h2 : a2 = n := h2
    subst h3; subst h2
    exact ha9
  · cases h
section
variable {p : Program} {l : Launch} {e : Env} {R : Room} {s : State} {m : MethodId} {args : Array Value} {below : List Frame} {meth : Method} {c : Code} {H : Heap} {locs : List Loc} {cells slots : Nat} {Q : State → Prop} {cc : ByteArray} {pc : Nat} {ls : Array Slot} {st : List Value}
variable {ad wr cr : Nat → Nat} {cy : Nat → ClassId} {nL : Nat} {T : ab_RG} {C : ab_CT} {σ0 σ : ab_SG} {B B' : ab_BD} {F : ab_FT} {Dl Dl' : ab_DL} {M M' : ab_ML} {ρ : Nat → Int} {L : ab_LS} {S S' : List ab_AV} {own : String} {i : Instr} {len : Nat} {D : va_G} {cl : List vw_C} {sh : List ab_SP} {A : Nat → Prop} {H0 : Heap} {Ts : List Jvm.Cond} {PF : ab_PT}
/-- the step's end, said once -/
def ab_go (p : Program) (l : Launch) (e : Env) (R : Room) (s : State) (m : MethodId) (args : Array Value) (below : List Frame) (meth : Method) (c : Code) (cells slots : Nat) (Q : State → Prop) (ad wr cr : Nat → Nat) (cy : Nat → ClassId) (T : ab_RG) (C : ab_CT) (σ0 : ab_SG) (D : va_G) (cl : List vw_C) (sh : List ab_SP) (A : Nat → Prop) (H0 : Heap) (n : Nat) (ρ : Nat → Int) (F : ab_FT) (S' : List ab_AV) (B' : ab_BD) (Dl' : ab_DL) (M' : ab_ML) (pc : Nat) (ls : Array Slot) : Prop :=
  ∀ (ρ' : Nat → Int) (σ' : ab_SG) (H' : Heap) (locs' : List Loc) (st' : List Value), ab_K T C σ0 B' F Dl' M' ρ' σ' → n ≤ B'.length → (∀ i, i < n → ρ' i = ρ i) → va_P D cl (ab_WD cy ad wr sh σ') H' → va_S A H0 H' locs' → ab_okS ad wr cr B'.length ρ' S' st' → W p l e R s m args below meth c H' locs' cells slots Q (F0 m pc ls st')
theorem ab_ald_ok {t tag : Nat} (htt : (t = 0 ∧ tag = 0 ∧ i = .iaload) ∨ (t = 1 ∧ tag = 1 ∧ i = .laload) ∨ (t = 2 ∧ tag = 0 ∧ i = .baload) ∨ (t = 3 ∧ tag = 0 ∧ i = .baload)) (hx : p.tables.exec = Jvm.exec) (hb : c.code = cc) (hKK : va_K D cl (ab_tys cy) s)
    (h : ab_ald T sh t tag len S B Dl M = some (S', B', Dl', M')) (hdg : decode cc pc = .ok (i, len)) (hK : ab_K T C σ0 B F Dl M ρ σ) (hS : ab_okS ad wr cr B.length ρ S st) (hP : va_P D cl (ab_WD cy ad wr sh σ) H) (hSS : va_S A H0 H locs)
    (kk : ab_go p l e R s m args below meth c cells slots Q ad wr cr cy T C σ0 D cl sh A H0 B.length ρ F S' B' Dl' M' (pc + len) ls) : W p l e R s m args below meth c H locs cells slots Q (F0 m pc ls st) := by
  unfold ab_ald at h
  split at h
  · rename_i s9 c9 k9 z9 S9
    split at h
    · rename_i n9 hn9
      split at h
      · rename_i a9 b9 hab9
        split at h
        · rename_i q9 B9 Dl9 hg9
          obtain ⟨g, h⟩ := ab_cs h
          have := ab_beq g; subst this
          cases h
          obtain ⟨st1, rfl, hs1, hS1⟩ := ab_okS_pop hS
          obtain ⟨st2, rfl, hs2, hS2⟩ := ab_okS_pop hS1
          obtain ⟨i1, i2, i3, i4⟩ := ab_ix_ok hK.1 hs1 hab9
          obtain ⟨ρ', r1, r2, r3, r4, r5⟩ := ab_get_ok hK hg9 i3 i4
          have ha := ab_WD_get (cy := cy) (ad := ad) (wr := wr) (σ := σ) (ab_arr_ok hn9)
          have hS3 := ab_okS_ext hS2 r2 r3
          rcases htt with ⟨rfl, rfl, rfl⟩ | ⟨rfl, rfl, rfl⟩ | ⟨rfl, rfl, rfl⟩ | ⟨rfl, rfl, rfl⟩
          · refine va_iald hx hb hKK hP k9 0 ha rfl i1 hdg ?_
            have := kk ρ' σ H locs (.int (Int32.ofInt (ρ' q9.1 + q9.2)) :: st2) r1 r2 r3 hP hSS (ab_okS_push (a := (0, q9.1, q9.2)) hS3 r4)
            rw [r5] at this
            show W _ _ _ _ _ _ _ _ _ _ _ _ _ _ _ (F0 m (pc + 1) ls (.int (Int32.ofInt (σ k9 (Int32.ofInt (ρ s9 + c9)).toNatClampNeg)) :: st2))
            rw [i2]
            exact this
          · refine va_lald hx hb hKK hP k9 1 ha rfl i1 hdg ?_
            have := kk ρ' σ H locs (.long (Int64.ofInt (ρ' q9.1 + q9.2)) :: st2) r1 r2 r3 hP hSS (ab_okS_push (a := (1, q9.1, q9.2)) hS3 r4)
            rw [r5] at this
            show W _ _ _ _ _ _ _ _ _ _ _ _ _ _ _ (F0 m (pc + 1) ls (.long (Int64.ofInt (σ k9 (Int32.ofInt (ρ s9 + c9)).toNatClampNeg)) :: st2))
            rw [i2]
            exact this
          · refine va_bald hx hb hKK hP k9 2 ha rfl i1 hdg ?_
            have := kk ρ' σ H locs (.int (Int32.ofInt (ρ' q9.1 + q9.2)) :: st2) r1 r2 r3 hP hSS (ab_okS_push (a := (0, q9.1, q9.2)) hS3 r4)
            rw [r5] at this
            show W _ _ _ _ _ _ _ _ _ _ _ _ _ _ _ (F0 m (pc + 1) ls (.int (Int32.ofInt (σ k9 (Int32.ofInt (ρ s9 + c9)).toNatClampNeg)) :: st2))
            rw [i2]
            exact this
          · refine va_zald hx hb hKK hP k9 3 ha rfl i1 hdg ?_
            have := kk ρ' σ H locs (.int (Int32.ofInt (ρ' q9.1 + q9.2)) :: st2) r1 r2 r3 hP hSS (ab_okS_push (a := (0, q9.1, q9.2)) hS3 r4)
            rw [r5] at this
            show W _ _ _ _ _ _ _ _ _ _ _ _ _ _ _ (F0 m (pc + 1) ls (.int (Int32.ofInt (σ k9 (Int32.ofInt (ρ s9 + c9)).toNatClampNeg)) :: st2))
            rw [i2]
            exact this
        · cases h
      · cases h
    · cases h
  · cases h
theorem ab_ast_ok {t tag : Nat} (htt : (t = 0 ∧ tag = 0 ∧ i = .iastore) ∨ (t = 1 ∧ tag = 1 ∧ i = .lastore) ∨ (t = 2 ∧ tag = 0 ∧ i = .bastore) ∨ (t = 3 ∧ tag = 0 ∧ i = .bastore)) (hx : p.tables.exec = Jvm.exec) (hb : c.code = cc) (hKK : va_K D cl (ab_tys cy) s) (hD : ∀ σ, va_D A (ab_WD cy ad wr sh σ))
    (h : ab_ast T C sh t tag len S B Dl M = some (S', B', Dl', M')) (hdg : decode cc pc = .ok (i, len)) (hK : ab_K T C σ0 B F Dl M ρ σ) (hS : ab_okS ad wr cr B.length ρ S st) (hP : va_P D cl (ab_WD cy ad wr sh σ) H) (hSS : va_S A H0 H locs)
    (kk : ab_go p l e R s m args below meth c cells slots Q ad wr cr cy T C σ0 D cl sh A H0 B.length ρ F S' B' Dl' M' (pc + len) ls) : W p l e R s m args below meth c H locs cells slots Q (F0 m pc ls st) := by
  unfold ab_ast at h
  split at h
  · rename_i tg9 v9 w9 s9 c9 k9 z9 S9
    split at h
    · rename_i n9 hn9
      split at h
      · rename_i a9 b9 hab9
        split at h
        · rename_i Dl9 M9 hg9
          obtain ⟨g, h2⟩ := ab_cs h
          rw [Bool.and_eq_true, Bool.and_eq_true] at g
          have := ab_beq g.1.1; subst this
          have := ab_beq g.1.2; subst this
          cases h2
          obtain ⟨st1, rfl, hs1, hS1⟩ := ab_okS_pop hS
          obtain ⟨st2, rfl, hs2, hS2⟩ := ab_okS_pop hS1
          obtain ⟨st3, rfl, hs3, hS3⟩ := ab_okS_pop hS2
          have hs2 : s9 < B.length := hs2
          have hv9 : v9 < B.length := by rcases htt with ⟨-, rfl, -⟩ | ⟨-, rfl, -⟩ | ⟨-, rfl, -⟩ | ⟨-, rfl, -⟩ <;> exact hs1
          obtain ⟨i1, i2, i3, i4⟩ := ab_ix_ok hK.1 hs2 hab9
          have hK2 := ab_set_ok hK hg9 hv9 i3 i4
          have hsh := ab_arr_ok hn9
          have ha := ab_WD_get (cy := cy) (ad := ad) (wr := wr) (σ := σ) hsh
          have hfb := hK.1 v9 hv9
          have fin : ∀ (H1 : Heap) (locs1 : List Loc) (x : va_E), x = ab_cell cy ad wr (.inr (t, n9)) (ab_ups σ k9 (ρ s9 + c9).toNat (ρ v9 + w9) k9) → va_P D cl ((ab_WD cy ad wr sh σ).set k9 (ad k9, x)) H1 → va_S A H0 H1 locs1 → W p l e R s m args below meth c H1 locs1 cells slots Q (F0 m (pc + 1) ls st3) := by
            intro H1 locs1 x hx1 hP1 hS1'
            rw [ab_WD_set (σ' := ab_ups σ k9 (ρ s9 + c9).toNat (ρ v9 + w9)) hsh hx1 (fun a ha9 => ab_ups_row ha9)] at hP1
            exact kk ρ _ H1 locs1 st3 hK2 (Nat.le_refl _) (fun _ _ => rfl) hP1 hS1' hS3
          rcases htt with ⟨rfl, rfl, rfl⟩ | ⟨rfl, rfl, rfl⟩ | ⟨rfl, rfl, rfl⟩ | ⟨rfl, rfl, rfl⟩
          · refine va_iast hx hb hKK hP (hD σ) hSS k9 0 ha rfl i1 hdg (fun H1 locs1 hP1 _ hS1' => fin H1 locs1 _ ?_ hP1 hS1')
            show _ = Sum.inl (cy 0, (n9, Sum.inl (fun j => Int32.ofInt (ab_ups σ k9 (ρ s9 + c9).toNat (ρ v9 + w9) k9 j))))
            rw [ab_row32, i2]
          · refine va_last hx hb hKK hP (hD σ) hSS k9 1 ha rfl i1 hdg (fun H1 locs1 hP1 _ hS1' => fin H1 locs1 _ ?_ hP1 hS1')
            show _ = Sum.inl (cy 1, (n9, Sum.inr (Sum.inl (fun j => Int64.ofInt (ab_ups σ k9 (ρ s9 + c9).toNat (ρ v9 + w9) k9 j)))))
            rw [ab_row64, i2]
          · have hf : ab_le (-128) (ab_lo B v9 + w9) && ab_le (ab_hi B v9 + w9) 127 = true := g.2
            rw [Bool.and_eq_true, ab_le_iff, ab_le_iff] at hf
            refine va_bast hx hb hKK hP (hD σ) hSS k9 2 ha rfl i1 hdg (fun H1 locs1 hP1 _ hS1' => fin H1 locs1 _ ?_ hP1 hS1')
            show _ = Sum.inl (cy 2, (n9, Sum.inl (fun j => Int32.ofInt (ab_ups σ k9 (ρ s9 + c9).toNat (ρ v9 + w9) k9 j))))
            rw [ab_row32, i2, ab_nar_b (by omega) (by omega)]
          · have hf : ab_le 0 (ab_lo B v9 + w9) && ab_le (ab_hi B v9 + w9) 1 = true := g.2
            rw [Bool.and_eq_true, ab_le_iff, ab_le_iff] at hf
            refine va_zast hx hb hKK hP (hD σ) hSS k9 3 ha rfl i1 hdg (fun H1 locs1 hP1 _ hS1' => fin H1 locs1 _ ?_ hP1 hS1')
            show _ = Sum.inl (cy 3, (n9, Sum.inl (fun j => Int32.ofInt (ab_ups σ k9 (ρ s9 + c9).toNat (ρ v9 + w9) k9 j))))
            rw [ab_row32, i2, ab_nar_z (by omega) (by omega)]
        · cases h
      · cases h
    · cases h
  · cases h
end
