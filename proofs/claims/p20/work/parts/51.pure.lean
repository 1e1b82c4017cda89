theorem ab_cs {α : Type} {b : Bool} {x y : α} (h : cond b (some x) none = some y) : b = true ∧ x = y := by
  cases b with
  | false => cases h
  | true => exact ⟨rfl, Option.some.inj h⟩
theorem ab_co {α : Type} {b : Bool} {x : Option α} {y : α} (h : cond b x none = some y) : b = true ∧ x = some y := by
  cases b with
  | false => cases h
  | true => exact ⟨rfl, h⟩
theorem ab_beq {a b : Nat} (h : a.beq b = true) : a = b := Nat.eq_of_beq_eq_true h
theorem ab_okS_push {ad wr cr : Nat → Nat} {n : Nat} {ρ : Nat → Int} {S : List ab_AV} {st : List Value} {a : ab_AV} (h : ab_okS ad wr cr n ρ S st) (ha : ab_sy n a) : ab_okS ad wr cr n ρ (a :: S) (ab_V ad wr cr ρ a :: st) :=
  ⟨by rw [List.map_cons, ← h.1], fun b hb => by
    rcases List.mem_cons.mp hb with rfl | hb
    · exact ha
    · exact h.2 b hb⟩
theorem ab_okS_pop {ad wr cr : Nat → Nat} {n : Nat} {ρ : Nat → Int} {S : List ab_AV} {st : List Value} {a : ab_AV} (h : ab_okS ad wr cr n ρ (a :: S) st) : ∃ st', st = ab_V ad wr cr ρ a :: st' ∧ ab_sy n a ∧ ab_okS ad wr cr n ρ S st' :=
  ⟨S.map (ab_V ad wr cr ρ), by rw [h.1, List.map_cons], h.2 a List.mem_cons_self, rfl, fun b hb => h.2 b (List.mem_cons_of_mem _ hb)⟩
theorem ab_ri_int {ad wr cr : Nat → Nat} {nL : Nat} {T : ab_RG} {C : ab_CT} {σ0 σ : ab_SG} {B B' : ab_BD} {F F' : ab_FT} {Dl : ab_DL} {M : ab_ML} {ρ : Nat → Int} {L L' : ab_LS} {S S' : List ab_AV} {ls : Array Slot} {st : List Value} {r : ab_RS} {z : Int32}
    (hr : ab_rs B.length ρ r z) (hK : ab_K T C σ0 B F Dl M ρ σ) (hL : ab_okL ad wr cr B.length nL ρ L ls) (hS : ab_okS ad wr cr B.length ρ S st) (he : ab_ri 0 r L S B F = (L', S', B', F')) :
    ∃ ρ', ab_K T C σ0 B' F' Dl M ρ' σ ∧ B.length ≤ B'.length ∧ (∀ i, i < B.length → ρ' i = ρ i) ∧ ab_okL ad wr cr B'.length nL ρ' L' ls ∧ ab_okS ad wr cr B'.length ρ' S' (.int z :: st) := by
  cases r with
  | inl q =>
    cases he
    refine ⟨ρ, hK, Nat.le_refl _, fun _ _ => rfl, hL, ?_⟩
    have := ab_okS_push (a := (0, q.1, q.2)) hS hr.1
    rw [show ab_V ad wr cr ρ (0, q.1, q.2) = .int z from congrArg Value.int hr.2] at this
    exact this
  | inr q =>
    cases he
    have hl : (B ++ [(q.1, q.2.1)]).length = B.length + 1 := by rw [List.length_append, List.length_singleton]
    have hρ : ∀ i, i < B.length → (fun i => if i = B.length then z.toInt else ρ i) i = ρ i := fun i hi => if_neg (by omega)
    refine ⟨fun i => if i = B.length then z.toInt else ρ i, ab_K_fresh hK hr.1 hr.2.1 q.2.2 hr.2.2, by omega, hρ, ab_okL_ext hL (by omega) hρ, ?_⟩
    have := ab_okS_push (a := (0, B.length, 0)) (ab_okS_ext hS (Nat.le_of_lt (by omega : B.length < (B ++ [(q.1, q.2.1)]).length)) hρ) (by show B.length < _; omega)
    rw [show ab_V ad wr cr (fun i => if i = B.length then z.toInt else ρ i) (0, B.length, 0) = .int z from congrArg Value.int (by show Int32.ofInt ((if B.length = B.length then z.toInt else _) + 0) = z; rw [if_pos rfl, Int.add_zero, Int32.ofInt_toInt])] at this
    exact this
theorem ab_ri_long {ad wr cr : Nat → Nat} {nL : Nat} {T : ab_RG} {C : ab_CT} {σ0 σ : ab_SG} {B B' : ab_BD} {F F' : ab_FT} {Dl : ab_DL} {M : ab_ML} {ρ : Nat → Int} {L L' : ab_LS} {S S' : List ab_AV} {ls : Array Slot} {st : List Value} {r : ab_RS} {z : Int64}
    (hr : ab_lrs B.length ρ r z) (hK : ab_K T C σ0 B F Dl M ρ σ) (hL : ab_okL ad wr cr B.length nL ρ L ls) (hS : ab_okS ad wr cr B.length ρ S st) (he : ab_ri 1 r L S B F = (L', S', B', F')) :
    ∃ ρ', ab_K T C σ0 B' F' Dl M ρ' σ ∧ B.length ≤ B'.length ∧ (∀ i, i < B.length → ρ' i = ρ i) ∧ ab_okL ad wr cr B'.length nL ρ' L' ls ∧ ab_okS ad wr cr B'.length ρ' S' (.long z :: st) := by
  cases r with
  | inl q =>
    cases he
    refine ⟨ρ, hK, Nat.le_refl _, fun _ _ => rfl, hL, ?_⟩
    have := ab_okS_push (a := (1, q.1, q.2)) hS hr.1
    rw [show ab_V ad wr cr ρ (1, q.1, q.2) = .long z from congrArg Value.long hr.2] at this
    exact this
  | inr q =>
    cases he
    have hl : (B ++ [(q.1, q.2.1)]).length = B.length + 1 := by rw [List.length_append, List.length_singleton]
    have hρ : ∀ i, i < B.length → (fun i => if i = B.length then z.toInt else ρ i) i = ρ i := fun i hi => if_neg (by omega)
    refine ⟨fun i => if i = B.length then z.toInt else ρ i, ab_K_fresh hK hr.1 hr.2.1 q.2.2 hr.2.2, by omega, hρ, ab_okL_ext hL (by omega) hρ, ?_⟩
    have := ab_okS_push (a := (1, B.length, 0)) (ab_okS_ext hS (Nat.le_of_lt (by omega : B.length < (B ++ [(q.1, q.2.1)]).length)) hρ) (by show B.length < _; omega)
    rw [show ab_V ad wr cr (fun i => if i = B.length then z.toInt else ρ i) (1, B.length, 0) = .long z from congrArg Value.long (by show Int64.ofInt ((if B.length = B.length then z.toInt else _) + 0) = z; rw [if_pos rfl, Int.add_zero, Int64.ofInt_toInt])] at this
    exact this
theorem ab_ref {ad wr cr : Nat → Nat} {ρ : Nat → Int} {a : ab_AV} (h : (2 : Nat).ble a.1 = true) : (∃ x, ab_V ad wr cr ρ a = .ref x) ∨ ab_V ad wr cr ρ a = .null := by
  obtain ⟨t, s, c⟩ := a
  match t, h with
  | 2, _ => exact Or.inl ⟨_, rfl⟩
  | 3, _ => exact Or.inr rfl
  | 4, _ =>
    show (∃ x, ab_wv wr (ρ s + c) = .ref x) ∨ ab_wv wr (ρ s + c) = .null
    cases ρ s + c with
    | ofNat i => exact Or.inl ⟨wr i, rfl⟩
    | negSucc i => exact Or.inr rfl
  | n + 5, _ => exact Or.inl ⟨_, rfl⟩
theorem ab_okL_st1 {ad wr cr : Nat → Nat} {n nL : Nat} {ρ : Nat → Int} {L : ab_LS} {ls ls' : Array Slot} {i : Nat} {a : ab_AV} (h : ab_okL ad wr cr n nL ρ L ls) (ha : ab_sy n a) (hl : lv_has ls' nL ((ab_st1 L i a).map (fun q => (q.1, ab_V ad wr cr ρ q.2)))) : ab_okL ad wr cr n nL ρ (ab_st1 L i a) ls' := ⟨hl, ab_st1_sy h.2 ha⟩
section
variable {p : Program} {l : Launch} {e : Env} {R : Room} {s : State} {m : MethodId} {args : Array Value} {below : List Frame} {meth : Method} {c : Code} {H : Heap} {locs : List Loc} {cells slots : Nat} {Q : State → Prop} {cc : ByteArray} {pc : Nat} {ls : Array Slot} {st : List Value}
variable {ad wr cr : Nat → Nat} {nL : Nat} {T : ab_RG} {C : ab_CT} {σ0 σ : ab_SG} {B B' : ab_BD} {F F' : ab_FT} {Dl : ab_DL} {M : ab_ML} {ρ : Nat → Int} {L L' : ab_LS} {S S' : List ab_AV} {own : String} {KI KJ : List (Nat × Int)} {i : Instr} {len : Nat}
set_option maxHeartbeats 4000000 in
theorem ab_pu_ok (hx : p.tables.exec = Jvm.exec) (hb : c.code = cc) (hown : s.vm.findClass own = some m.cls) (hKI : ∀ q ∈ KI, (Jvm.Cond.constant own q.1 (Int32.ofInt q.2)).before args s = true) (hKJ : ∀ q ∈ KJ, (Jvm.Cond.constantLong own q.1 (Int64.ofInt q.2)).before args s = true)
    (hpu : ab_pu KI KJ nL i len L S B F = some (L', S', B', F')) (hdg : decode cc pc = .ok (i, len)) (hK : ab_K T C σ0 B F Dl M ρ σ) (hL : ab_okL ad wr cr B.length nL ρ L ls) (hS : ab_okS ad wr cr B.length ρ S st)
    (kk : ∀ (ρ' : Nat → Int) (ls' : Array Slot) (st' : List Value), ab_K T C σ0 B' F' Dl M ρ' σ → B.length ≤ B'.length → (∀ i, i < B.length → ρ' i = ρ i) → ab_okL ad wr cr B'.length nL ρ' L' ls' → ab_okS ad wr cr B'.length ρ' S' st' → W p l e R s m args below meth c H locs cells slots Q (F0 m (pc + len) ls' st')) :
    W p l e R s m args below meth c H locs cells slots Q (F0 m pc ls st) := by
  have h0 : ρ 0 = 0 := hK.2.2.1
  have hn : 0 < B.length := hK.2.2.2.1
  have K0 : ∀ (ls' : Array Slot) (st' : List Value), L' = L → B' = B → F' = F → ls' = ls → ab_okS ad wr cr B.length ρ S' st' → W p l e R s m args below meth c H locs cells slots Q (F0 m (pc + len) ls' st') := by
    intro ls' st' e1 e2 e3 e4 hS'
    subst e1; subst e2; subst e3; subst e4
    exact kk ρ _ st' hK (Nat.le_refl _) (fun _ _ => rfl) hL hS'
  have C0 : ∀ v : Int, ab_V ad wr cr ρ (0, 0, v) = .int (Int32.ofInt v) := fun v => by show Value.int (Int32.ofInt (ρ 0 + v)) = _; rw [h0, Int.zero_add]
  have C1 : ∀ v : Int, ab_V ad wr cr ρ (1, 0, v) = .long (Int64.ofInt v) := fun v => by show Value.long (Int64.ofInt (ρ 0 + v)) = _; rw [h0, Int.zero_add]
  have P0 : ∀ v : Int, ab_okS ad wr cr B.length ρ ((0, 0, v) :: S) (.int (Int32.ofInt v) :: st) := fun v => by rw [← C0]; exact ab_okS_push hS hn
  have P1 : ∀ v : Int, ab_okS ad wr cr B.length ρ ((1, 0, v) :: S) (.long (Int64.ofInt v) :: st) := fun v => by rw [← C1]; exact ab_okS_push hS hn
  have D0 : ∀ (r : ab_RS) (z : Int32) (S1 : List ab_AV) (st1 : List Value), len = 1 → ab_ri 0 r L S1 B F = (L', S', B', F') → ab_rs B.length ρ r z → ab_okS ad wr cr B.length ρ S1 st1 → W p l e R s m args below meth c H locs cells slots Q (F0 m (pc + 1) ls (.int z :: st1)) := by
    intro r z S1 st1 e1 he hr hS1
    subst e1
    obtain ⟨ρ', a1, a2, a3, a4, a5⟩ := ab_ri_int hr hK hL hS1 he
    exact kk ρ' ls _ a1 a2 a3 a4 a5
  have D1 : ∀ (r : ab_RS) (z : Int64) (S1 : List ab_AV) (st1 : List Value), len = 1 → ab_ri 1 r L S1 B F = (L', S', B', F') → ab_lrs B.length ρ r z → ab_okS ad wr cr B.length ρ S1 st1 → W p l e R s m args below meth c H locs cells slots Q (F0 m (pc + 1) ls (.long z :: st1)) := by
    intro r z S1 st1 e1 he hr hS1
    subst e1
    obtain ⟨ρ', a1, a2, a3, a4, a5⟩ := ab_ri_long hr hK hL hS1 he
    exact kk ρ' ls _ a1 a2 a3 a4 a5
  have LD : ∀ (f : ab_AV → Bool) (k : Nat), ab_ld f L k S B F = some (L', S', B', F') → ∃ a, ls[k]? = some (.val (ab_V ad wr cr ρ a)) ∧ f a = true ∧ W p l e R s m args below meth c H locs cells slots Q (F0 m (pc + len) ls (ab_V ad wr cr ρ a :: st)) := by
    intro f k h
    unfold ab_ld at h
    cases ha : ab_lk L k with
    | none => rw [ha] at h; cases h
    | some a =>
      rw [ha] at h
      obtain ⟨h1, h2⟩ := ab_cs h
      cases h2
      obtain ⟨g1, g2⟩ := ab_okL_at hL ha
      exact ⟨a, g1, h1, K0 ls _ rfl rfl rfl rfl (ab_okS_push hS g2)⟩
  have V0 : ∀ a : ab_AV, a.1.beq 0 = true → ∃ x, ab_V ad wr cr ρ a = .int x := fun a ha => by
    obtain ⟨t, s, c⟩ := a
    have := ab_beq ha
    subst this
    exact ⟨_, rfl⟩
  have V1 : ∀ a : ab_AV, a.1.beq 1 = true → ∃ x, ab_V ad wr cr ρ a = .long x := fun a ha => by
    obtain ⟨t, s, c⟩ := a
    have := ab_beq ha
    subst this
    exact ⟨_, rfl⟩
  unfold ab_pu at hpu
  split at hpu
  · obtain ⟨g, h⟩ := ab_cs hpu; cases h
    have := ab_beq g; subst this
    exact lv_iconst hx hb hdg rfl (K0 _ _ rfl rfl rfl rfl (P0 _))
  · obtain ⟨g, h⟩ := ab_cs hpu; cases h
    have := ab_beq g; subst this
    exact lv_bipush hx hb hdg (Int32.ofInt_toInt _).symm (K0 _ _ rfl rfl rfl rfl (P0 _))
  · obtain ⟨g, h⟩ := ab_cs hpu; cases h
    have := ab_beq g; subst this
    exact lv_sipush hx hb hdg (Int32.ofInt_toInt _).symm (K0 _ _ rfl rfl rfl rfl (P0 _))
  · obtain ⟨g, h⟩ := ab_cs hpu; cases h
    have := ab_beq g; subst this
    exact lv_lconst hx hb hdg rfl (K0 _ _ rfl rfl rfl rfl (P1 _))
  · obtain ⟨g, h⟩ := ab_cs hpu; cases h
    have := ab_beq g; subst this
    exact lv_null hx hb hdg (K0 _ _ rfl rfl rfl rfl (ab_okS_push (a := (3, 0, 0)) hS trivial))
  · obtain ⟨g, h⟩ := ab_co hpu
    have := ab_beq g; subst this
    split at h
    · cases h
      exact lv_ldc hx hb hown (hKI _ (ab_kc_mem (by assumption))) hdg (K0 _ _ rfl rfl rfl rfl (P0 _))
    · cases h
  · obtain ⟨g, h⟩ := ab_co hpu
    have := ab_beq g; subst this
    split at h
    · cases h
      exact lv_ldcw hx hb hown (hKI _ (ab_kc_mem (by assumption))) hdg (K0 _ _ rfl rfl rfl rfl (P0 _))
    · cases h
  · obtain ⟨g, h⟩ := ab_co hpu
    have := ab_beq g; subst this
    split at h
    · cases h
      exact lv_ldc2 hx hb hown (hKJ _ (ab_kc_mem (by assumption))) hdg (K0 _ _ rfl rfl rfl rfl (P1 _))
    · cases h
  · obtain ⟨g, h⟩ := ab_co hpu
    have := ab_beq g; subst this
    obtain ⟨a, a1, a2, a3⟩ := LD _ _ h
    obtain ⟨x, hx1⟩ := V0 a a2
    rw [hx1] at a1 a3
    exact lv_iload_n hx hb hdg rfl a1 a3
  · obtain ⟨g, h⟩ := ab_co hpu
    have := ab_beq g; subst this
    obtain ⟨a, a1, a2, a3⟩ := LD _ _ h
    obtain ⟨x, hx1⟩ := V0 a a2
    rw [hx1] at a1 a3
    exact lv_iload hx hb hdg a1 a3
  · obtain ⟨g, h⟩ := ab_co hpu
    have := ab_beq g; subst this
    obtain ⟨a, a1, a2, a3⟩ := LD _ _ h
    obtain ⟨x, hx1⟩ := V1 a a2
    rw [hx1] at a1 a3
    exact lv_lload_n hx hb hdg rfl a1 a3
  · obtain ⟨g, h⟩ := ab_co hpu
    have := ab_beq g; subst this
    obtain ⟨a, a1, a2, a3⟩ := LD _ _ h
    obtain ⟨x, hx1⟩ := V1 a a2
    rw [hx1] at a1 a3
    exact lv_lload hx hb hdg a1 a3
  · obtain ⟨g, h⟩ := ab_co hpu
    have := ab_beq g; subst this
    obtain ⟨a, a1, a2, a3⟩ := LD _ _ h
    rcases ab_ref (ad := ad) (wr := wr) (cr := cr) (ρ := ρ) a2 with ⟨x, hx1⟩ | hx1
    · rw [hx1] at a1 a3
      exact lv_aload_n hx hb hdg rfl a1 a3
    · rw [hx1] at a1 a3
      exact lv_aload_nN hx hb hdg rfl a1 a3
  · obtain ⟨g, h⟩ := ab_co hpu
    have := ab_beq g; subst this
    obtain ⟨a, a1, a2, a3⟩ := LD _ _ h
    rcases ab_ref (ad := ad) (wr := wr) (cr := cr) (ρ := ρ) a2 with ⟨x, hx1⟩ | hx1
    · rw [hx1] at a1 a3
      exact lv_aload hx hb hdg a1 a3
    · rw [hx1] at a1 a3
      exact lv_aloadN hx hb hdg a1 a3
  · split at hpu
    · rename_i k9 x9 s9 c9 S9
      obtain ⟨g, h⟩ := ab_cs hpu; cases h
      rw [Bool.and_eq_true] at g
      have := ab_beq g.1; subst this
      obtain ⟨st1, rfl, hs1, hS1⟩ := ab_okS_pop hS
      exact lv_istore_n hx hb hdg rfl hL.1 (Nat.le_of_ble_eq_true g.2) (@ab_st1_map ad wr cr ρ L k9 (0, s9, c9)) (fun ls' hl' => kk ρ ls' st1 hK (Nat.le_refl _) (fun _ _ => rfl) (ab_okL_st1 hL hs1 hl') hS1)
    · cases hpu
  · split at hpu
    · rename_i k9 x9 s9 c9 S9
      obtain ⟨g, h⟩ := ab_cs hpu; cases h
      rw [Bool.and_eq_true] at g
      have := ab_beq g.1; subst this
      obtain ⟨st1, rfl, hs1, hS1⟩ := ab_okS_pop hS
      exact lv_istore hx hb hdg hL.1 (Nat.le_of_ble_eq_true g.2) (@ab_st1_map ad wr cr ρ L k9 (0, s9, c9)) (fun ls' hl' => kk ρ ls' st1 hK (Nat.le_refl _) (fun _ _ => rfl) (ab_okL_st1 hL hs1 hl') hS1)
    · cases hpu
  · split at hpu
    · rename_i k9 x9 s9 c9 S9
      obtain ⟨g, h⟩ := ab_cs hpu; cases h
      rw [Bool.and_eq_true] at g
      have := ab_beq g.1; subst this
      obtain ⟨st1, rfl, hs1, hS1⟩ := ab_okS_pop hS
      exact lv_lstore_n hx hb hdg rfl hL.1 (Nat.le_of_ble_eq_true g.2) (@ab_st2_map ad wr cr ρ L k9 (1, s9, c9)) (fun ls' hl' => kk ρ ls' st1 hK (Nat.le_refl _) (fun _ _ => rfl) ⟨hl', ab_st2_sy hL.2 hs1⟩ hS1)
    · cases hpu
  · split at hpu
    · rename_i k9 x9 s9 c9 S9
      obtain ⟨g, h⟩ := ab_cs hpu; cases h
      rw [Bool.and_eq_true] at g
      have := ab_beq g.1; subst this
      obtain ⟨st1, rfl, hs1, hS1⟩ := ab_okS_pop hS
      exact lv_lstore hx hb hdg hL.1 (Nat.le_of_ble_eq_true g.2) (@ab_st2_map ad wr cr ρ L k9 (1, s9, c9)) (fun ls' hl' => kk ρ ls' st1 hK (Nat.le_refl _) (fun _ _ => rfl) ⟨hl', ab_st2_sy hL.2 hs1⟩ hS1)
    · cases hpu
  · split at hpu
    · rename_i A9 S9
      obtain ⟨g, h⟩ := ab_cs hpu; cases h
      rw [Bool.and_eq_true, Bool.and_eq_true] at g
      have := ab_beq g.1.1; subst this
      obtain ⟨st1, rfl, hs1, hS1⟩ := ab_okS_pop hS
      have hm1 : ∀ i, _ := fun i => @ab_st1_map ad wr cr ρ L i A9
      rcases ab_ref (ad := ad) (wr := wr) (cr := cr) (ρ := ρ) g.2 with ⟨x, hx1⟩ | hx1
      · rw [hx1] at hm1 ⊢
        exact lv_astore_n hx hb hdg rfl hL.1 (Nat.le_of_ble_eq_true g.1.2) (hm1 _) (fun ls' hl' => kk ρ ls' st1 hK (Nat.le_refl _) (fun _ _ => rfl) (ab_okL_st1 hL hs1 hl') hS1)
      · rw [hx1] at hm1 ⊢
        exact lv_astore_nN hx hb hdg rfl hL.1 (Nat.le_of_ble_eq_true g.1.2) (hm1 _) (fun ls' hl' => kk ρ ls' st1 hK (Nat.le_refl _) (fun _ _ => rfl) (ab_okL_st1 hL hs1 hl') hS1)
    · cases hpu
  · split at hpu
    · rename_i A9 S9
      obtain ⟨g, h⟩ := ab_cs hpu; cases h
      rw [Bool.and_eq_true, Bool.and_eq_true] at g
      have := ab_beq g.1.1; subst this
      obtain ⟨st1, rfl, hs1, hS1⟩ := ab_okS_pop hS
      have hm1 : ∀ i, _ := fun i => @ab_st1_map ad wr cr ρ L i A9
      rcases ab_ref (ad := ad) (wr := wr) (cr := cr) (ρ := ρ) g.2 with ⟨x, hx1⟩ | hx1
      · rw [hx1] at hm1 ⊢
        exact lv_astore hx hb hdg hL.1 (Nat.le_of_ble_eq_true g.1.2) (hm1 _) (fun ls' hl' => kk ρ ls' st1 hK (Nat.le_refl _) (fun _ _ => rfl) (ab_okL_st1 hL hs1 hl') hS1)
      · rw [hx1] at hm1 ⊢
        exact lv_astoreN hx hb hdg hL.1 (Nat.le_of_ble_eq_true g.1.2) (hm1 _) (fun ls' hl' => kk ρ ls' st1 hK (Nat.le_refl _) (fun _ _ => rfl) (ab_okL_st1 hL hs1 hl') hS1)
    · cases hpu
  · split at hpu
    · obtain ⟨g, h⟩ := ab_cs hpu; cases h
      rw [Bool.and_eq_true, Bool.not_eq_true'] at g
      have := ab_beq g.1; subst this
      obtain ⟨st1, rfl, hs1, hS1⟩ := ab_okS_pop hS
      exact lv_dup hx hb hdg (ab_V_cat1 g.2) (K0 _ _ rfl rfl rfl rfl (ab_okS_push (ab_okS_push hS1 hs1) hs1))
    · cases hpu
  · split at hpu
    · obtain ⟨g, h⟩ := ab_cs hpu; cases h
      rw [Bool.and_eq_true, Bool.and_eq_true, Bool.not_eq_true', Bool.not_eq_true'] at g
      have := ab_beq g.1.1; subst this
      obtain ⟨st1, rfl, hs1, hS1⟩ := ab_okS_pop hS
      obtain ⟨st2, rfl, hs2, hS2⟩ := ab_okS_pop hS1
      exact lv_dup2_11 hx hb hdg (ab_V_cat1 g.1.2) (ab_V_cat1 g.2) (K0 _ _ rfl rfl rfl rfl (ab_okS_push (ab_okS_push (ab_okS_push (ab_okS_push hS2 hs2) hs1) hs2) hs1))
    · cases hpu
  · split at hpu
    · obtain ⟨g, h⟩ := ab_cs hpu; cases h
      rw [Bool.and_eq_true, Bool.not_eq_true'] at g
      have := ab_beq g.1; subst this
      obtain ⟨st1, rfl, hs1, hS1⟩ := ab_okS_pop hS
      exact lv_pop hx hb hdg (ab_V_cat1 g.2) (K0 _ _ rfl rfl rfl rfl hS1)
    · cases hpu
  · split at hpu
    · rename_i k9 n9 x9 s9 c9 hk9
      obtain ⟨g, h⟩ := ab_cs hpu
      rw [Bool.and_eq_true] at g
      have := ab_beq g.1; subst this
      have hs9 : ab_sy B.length (0, s9, c9) := hL.2 _ (ab_lk_mem hk9)
      cases hin : ab_in B s9 (c9 + n9) with
      | true =>
        rw [hin] at h; cases h
        obtain ⟨j9, hj9⟩ := List.getElem?_of_mem (List.mem_map.mpr ⟨_, ab_lk_mem hk9, rfl⟩ : (k9, ab_V ad wr cr ρ (0, s9, c9)) ∈ L.map (fun q => (q.1, ab_V ad wr cr ρ q.2)))
        refine lv_iinc hx hb hdg hL.1 (k := j9) (x := Int32.ofInt (ρ s9 + c9)) (v := Int32.ofInt (ρ s9 + (c9 + n9))) hj9 ?_ (Nat.le_of_ble_eq_true g.2) (@ab_st1_map ad wr cr ρ L k9 (0, s9, c9 + n9)) (fun ls' hl' => kk ρ ls' st hK (Nat.le_refl _) (fun _ _ => rfl) (ab_okL_st1 hL hs9 hl') hS)
        rw [← Int32.ofInt_add, Int.add_assoc]
      | false =>
        rw [hin] at h; cases h
        obtain ⟨ρ', a1, a2, a3, a4, a5⟩ := ab_ri_int (L' := L) (S' := (0, B.length, 0) :: S) (B' := B ++ [(-2147483648, 2147483647)]) (F' := F) (ab_rs_full (Int32.ofInt (ρ s9 + (c9 + n9)))) hK hL hS rfl
        obtain ⟨st1, e1, hs1, hS1⟩ := ab_okS_pop a5
        injection e1 with e1 e2; subst e2
        obtain ⟨j9, hj9⟩ := List.getElem?_of_mem (List.mem_map.mpr ⟨_, ab_lk_mem hk9, rfl⟩ : (k9, ab_V ad wr cr ρ' (0, s9, c9)) ∈ L.map (fun q => (q.1, ab_V ad wr cr ρ' q.2)))
        refine lv_iinc hx hb hdg a4.1 (k := j9) (x := Int32.ofInt (ρ' s9 + c9)) (v := Int32.ofInt (ρ' B.length + 0)) hj9 ?_ (Nat.le_of_ble_eq_true g.2) (@ab_st1_map ad wr cr ρ' L k9 (0, B.length, 0)) (fun ls' hl' => kk ρ' ls' st a1 a2 a3 (ab_okL_st1 a4 hs1 hl') hS1)
        have e3 : Int32.ofInt (ρ s9 + (c9 + n9)) = Int32.ofInt (ρ' B.length + 0) := Value.int.inj e1
        rw [← e3, a3 s9 hs9, ← Int32.ofInt_add, Int.add_assoc]
    · cases hpu
  · split at hpu
    · rename_i s9 c9 S9
      obtain ⟨g, h⟩ := ab_cs hpu
      have := ab_beq g
      obtain ⟨st1, rfl, hs1, hS1⟩ := ab_okS_pop hS
      cases hc : s9.beq 0 with
      | true =>
        have hs0 := ab_beq hc
        subst hs0
        rw [hc] at h
        subst this
        refine lv_ineg hx hb hdg (D0 (.inl (0, -c9)) _ S9 _ rfl h ⟨hn, ?_⟩ hS1)
        show Int32.ofInt (ρ 0 + -c9) = -Int32.ofInt (ρ 0 + c9)
        rw [h0, Int.zero_add, Int.zero_add, Int32.ofInt_neg]
      | false =>
        rw [hc] at h
        subst this
        exact lv_ineg hx hb hdg (D0 ab_full _ S9 _ rfl h (ab_rs_full _) hS1)
    · cases hpu
  · split at hpu
    · rename_i s9 c9 S9
      obtain ⟨g, h⟩ := ab_cs hpu
      have := ab_beq g
      obtain ⟨st1, rfl, hs1, hS1⟩ := ab_okS_pop hS
      cases hc : s9.beq 0 with
      | true =>
        have hs0 := ab_beq hc
        subst hs0
        rw [hc] at h
        subst this
        refine lv_lneg hx hb hdg (D1 (.inl (0, -c9)) _ S9 _ rfl h ⟨hn, ?_⟩ hS1)
        show Int64.ofInt (ρ 0 + -c9) = -Int64.ofInt (ρ 0 + c9)
        rw [h0, Int.zero_add, Int.zero_add, Int64.ofInt_neg]
      | false =>
        rw [hc] at h
        subst this
        exact lv_lneg hx hb hdg (D1 ab_lfull _ S9 _ rfl h (ab_lrs_full _) hS1)
    · cases hpu
  · split at hpu
    · obtain ⟨g, h⟩ := ab_cs hpu
      have := ab_beq g; subst this
      obtain ⟨st1, rfl, hs1, hS1⟩ := ab_okS_pop hS
      obtain ⟨st2, rfl, hs2, hS2⟩ := ab_okS_pop hS1
      exact lv_lushr hx hb hdg rfl (D1 _ _ _ _ rfl h (ab_lrs_full _) hS2)
    · cases hpu
  · split at hpu
    · rename_i s9 c9 S9
      obtain ⟨g, h⟩ := ab_cs hpu
      have := ab_beq g; subst this
      obtain ⟨st1, rfl, hs1, hS1⟩ := ab_okS_pop hS
      cases hc : ab_in B s9 c9 with
      | true =>
        rw [hc] at h
        refine lv_i2l hx hb hdg rfl (D1 (.inl (s9, c9)) _ S9 _ rfl h ⟨hs1, ?_⟩ hS1)
        apply Int64.toInt_inj.mp
        have e : (Int32.ofInt (ρ s9 + c9)).toInt = ρ s9 + c9 := ab_in_ok hK.1 hs1 hc
        rw [Int32.toInt_toInt64]
        show (Int64.ofInt (ρ s9 + c9)).toInt = (Int32.ofInt (ρ s9 + c9)).toInt
        have r := ab_r32 (Int32.ofInt (ρ s9 + c9))
        rw [e] at r ⊢
        exact Int64.toInt_ofInt_of_le (by omega) (by omega)
      | false =>
        rw [hc] at h
        refine lv_i2l hx hb hdg rfl (D1 ab_full _ S9 _ rfl h ⟨?_, ?_, fun f hf => by cases hf⟩ hS1)
        · rw [Int32.toInt_toInt64]; exact (ab_r32 _).1
        · rw [Int32.toInt_toInt64]; exact (ab_r32 _).2
    · cases hpu
  · split at hpu
    · rename_i s9 c9 S9
      obtain ⟨g, h⟩ := ab_cs hpu
      have := ab_beq g; subst this
      obtain ⟨st1, rfl, hs1, hS1⟩ := ab_okS_pop hS
      cases hc : (ab_inL B s9 c9 && ab_in B s9 c9) with
      | true =>
        rw [hc] at h
        rw [Bool.and_eq_true] at hc
        refine lv_l2i hx hb hdg rfl (D0 (.inl (s9, c9)) _ S9 _ rfl h ⟨hs1, ?_⟩ hS1)
        apply Int32.toInt_inj.mp
        have e : (Int32.ofInt (ρ s9 + c9)).toInt = ρ s9 + c9 := ab_in_ok hK.1 hs1 hc.2
        have e2 : (Int64.ofInt (ρ s9 + c9)).toInt = ρ s9 + c9 := ab_inL_ok hK.1 hs1 hc.1
        have r := ab_r32 (Int32.ofInt (ρ s9 + c9))
        rw [Int64.toInt_toInt32]
        show (Int32.ofInt (ρ s9 + c9)).toInt = (Int64.ofInt (ρ s9 + c9)).toInt.bmod (2 ^ 32)
        rw [e2]
        rw [e] at r ⊢
        exact (Int.bmod_eq_of_le (by omega) (by omega)).symm
      | false =>
        rw [hc] at h
        exact lv_l2i hx hb hdg rfl (D0 ab_full _ S9 _ rfl h (ab_rs_full _) hS1)
    · cases hpu
  · split at hpu
    · obtain ⟨g, h⟩ := ab_cs hpu
      have := ab_beq g; subst this
      obtain ⟨st1, rfl, hs1, hS1⟩ := ab_okS_pop hS
      refine lv_i2b hx hb hdg rfl (D0 _ _ _ _ rfl h ⟨?_, ?_, fun f hf => by cases hf⟩ hS1)
      · rw [Int8.toInt_toInt32]; exact Int8.le_toInt _
      · rw [Int8.toInt_toInt32]; exact Int.le_of_lt_add_one (Int8.toInt_lt _)
    · cases hpu
  · split at hpu
    · rename_i o9 t9 d9 s9 c9 S9 ho9
      obtain ⟨g, h⟩ := ab_cs hpu
      rw [Bool.and_eq_true] at g
      have := ab_beq g.1; subst this
      obtain ⟨st1, rfl, hs1, hS1⟩ := ab_okS_pop hS
      obtain ⟨st2, rfl, hs2, hS2⟩ := ab_okS_pop hS1
      refine ab_bo_row hx hb ho9 ?_ hdg (D0 _ _ _ _ rfl h (ab_op_ok o9 hK.1 hK.2.1 h0 hn hs2 hs1) hS2)
      intro hz
      refine ab_nz_ok hK.1 hs1 ?_
      have g2 := g.2
      rw [Bool.or_eq_true, Bool.not_eq_true'] at g2
      rcases g2 with g2 | g2
      · exfalso
        rcases hz with rfl | rfl <;> cases g2
      · exact g2
    · split at hpu
      · rename_i o9 t9 d9 s9 c9 S9 ho9 hneg9
        obtain ⟨g, h⟩ := ab_cs hpu
        rw [Bool.and_eq_true] at g
        have := ab_beq g.1; subst this
        obtain ⟨st1, rfl, hs1, hS1⟩ := ab_okS_pop hS
        obtain ⟨st2, rfl, hs2, hS2⟩ := ab_okS_pop hS1
        refine ab_bl_row hx hb ho9 ?_ hdg (D1 _ _ _ _ rfl h (ab_lop_ok o9 hK.1 hK.2.1 h0 hn hs2 hs1) hS2)
        intro hz
        refine ab_lnz_ok hK.1 hs1 ?_
        have g2 := g.2
        rw [Bool.or_eq_true, Bool.not_eq_true'] at g2
        rcases g2 with g2 | g2
        · exfalso
          rcases hz with rfl | rfl <;> cases g2
        · exact g2
      · cases hpu
end
