theorem ab_put_in {pc : Nat} {S : List ab_AV} {l : List (ab_BD × ab_FT)} {q : ab_BD × ab_FT} (h : q ∈ l) : (pc, S, q.1, q.2) ∈ ab_put pc S l := List.mem_map.mpr ⟨q, h, rfl⟩
section
variable {p : Program} {l : Launch} {e : Env} {R : Room} {s : State} {m : MethodId} {args : Array Value} {below : List Frame} {meth : Method} {c : Code} {H : Heap} {locs : List Loc} {cells slots : Nat} {Q : State → Prop} {cc : ByteArray} {pc : Nat} {ls : Array Slot} {st : List Value}
variable {ad wr cr : Nat → Nat} {B : ab_BD} {F : ab_FT} {ρ : Nat → Int} {S : List ab_AV} {i : Instr} {len : Nat}
theorem ab_two_ok {sp : Bool} {r tt tf : Nat} {s9 t9 : Nat} {c9 d9 X Y : Int} {ok : Bool} {P : Nat → Prop} (hB : ab_okB B ρ) (hF : ab_okF B.length F ρ) (hs : s9 < B.length) (ht : t9 < B.length) (hok : ok = true → X = ρ s9 + c9 ∧ Y = ρ t9 + d9)
    (kk : ∀ q ∈ ab_two sp r tt tf S B F s9 c9 t9 d9 ok, q.2.1 = S → ab_okBF B.length ρ (q.2.2.1, q.2.2.2) → P q.1) : (ab_rel r X Y → P tt) ∧ (ab_rel (ab_neg r) X Y → P tf) := by
  unfold ab_two at kk
  cases ok with
  | false =>
    exact ⟨fun _ => kk (tt, S, B, F) (List.mem_cons_self) rfl ⟨rfl, hB, hF⟩, fun _ => kk (tf, S, B, F) (List.mem_cons_of_mem _ List.mem_cons_self) rfl ⟨rfl, hB, hF⟩⟩
  | true =>
    obtain ⟨e1, e2⟩ := hok rfl
    subst e1; subst e2
    refine ⟨fun h => ?_, fun h => ?_⟩
    · obtain ⟨q, hq, hq2⟩ := ab_as_ok (sp := sp) hB hF hs ht h
      exact kk _ (List.mem_append_left _ (ab_put_in hq)) rfl hq2
    · obtain ⟨q, hq, hq2⟩ := ab_as_ok (sp := sp) hB hF hs ht h
      exact kk _ (List.mem_append_right _ (ab_put_in hq)) rfl hq2
theorem ab_tab_ok {sp : Bool} {s9 : Nat} {c9 : Int} (hB : ab_okB B ρ) (hF : ab_okF B.length F ρ) (h0 : ρ 0 = 0) (hn : 0 < B.length) (hs : s9 < B.length) : ∀ (os : List Int) (k : Int) (l : List ab_SU), ab_tab sp pc S B F s9 c9 os k = some l → ∀ (j : Nat) (o : Int), os[j]? = some o → ρ s9 + c9 = k + j → ∃ n q, ab_tg pc o = some n ∧ (n, S, q) ∈ l ∧ ab_okBF B.length ρ q := by
  intro os
  induction os with
  | nil => intro k l h j o ho; simp at ho
  | cons o1 os ih =>
    intro k l h j o ho he
    unfold ab_tab at h
    split at h
    · rename_i n9 l9 g1 g2
      cases h
      cases j with
      | zero =>
        rw [List.getElem?_cons_zero] at ho
        cases ho
        obtain ⟨q, hq, hq2⟩ := ab_as_ok (sp := sp) (r := 0) (c := c9) (t := 0) (d := k) hB hF hs hn (by show ρ s9 + c9 = ρ 0 + k; omega)
        exact ⟨n9, q, g1, List.mem_append_left _ (ab_put_in hq), hq2⟩
      | succ j =>
        rw [List.getElem?_cons_succ] at ho
        obtain ⟨n, q, a1, a2, a3⟩ := ih (k + 1) l9 g2 j o ho (by omega)
        exact ⟨n, q, a1, List.mem_append_right _ a2, a3⟩
    · cases h
theorem ab_rf {ad wr cr : Nat → Nat} {ρ : Nat → Int} {a : ab_AV} (h : (2 : Nat).ble a.1 = true) : ∃ x, ab_V ad wr cr ρ a = va_rf x := by
  rcases ab_ref (ad := ad) (wr := wr) (cr := cr) (ρ := ρ) h with ⟨x, hx⟩ | hx
  · exact ⟨some x, hx⟩
  · exact ⟨none, hx⟩
set_option maxHeartbeats 4000000 in
theorem ab_br_ok {sp : Bool} {nx : Option (Instr × Nat)} {l9 : List ab_SU} (hx : p.tables.exec = Jvm.exec) (hb : c.code = cc) (h : ab_br sp pc i len nx S B F = some l9) (hdg : decode cc pc = .ok (i, len)) (hnx : ∀ j n, nx = some (j, n) → decode cc (pc + 1) = .ok (j, n))
    (hB : ab_okB B ρ) (hF : ab_okF B.length F ρ) (h0 : ρ 0 = 0) (hn : 0 < B.length) (hS : ab_okS ad wr cr B.length ρ S st)
    (kk : ∀ q ∈ l9, ∀ st' : List Value, ab_okBF B.length ρ (q.2.2.1, q.2.2.2) → ab_okS ad wr cr B.length ρ q.2.1 st' → W p l e R s m args below meth c H locs cells slots Q (F0 m q.1 ls st')) :
    W p l e R s m args below meth c H locs cells slots Q (F0 m pc ls st) := by
  unfold ab_br at h
  split at h
  · obtain ⟨g, h⟩ := ab_co h
    have := ab_beq g; subst this
    split at h
    · rename_i n9 g9
      cases h
      exact lv_goto hx hb hdg (ab_tg_ok g9) (kk (n9, S, B, F) List.mem_cons_self st ⟨rfl, hB, hF⟩ hS)
    · cases h
  · split at h
    · rename_i t9 d9 s9 c9 S9 j9
      split at h
      · rename_i r9 o9 hz9
        split at h
        · rename_i n9 hn9
          obtain ⟨g, h⟩ := ab_cs h
          have := ab_beq g; subst this
          cases h
          obtain ⟨st1, rfl, hs1, hS1⟩ := ab_okS_pop hS
          obtain ⟨st2, rfl, hs2, hS2⟩ := ab_okS_pop hS1
          have ht := ab_tg_ok hn9
          have hk := ab_two_ok (sp := sp) (S := S9) (P := fun q => W p l e R s m args below meth c H locs cells slots Q (F0 m q ls st2)) (X := (Int64.ofInt (ρ s9 + c9)).toInt) (Y := (Int64.ofInt (ρ t9 + d9)).toInt) (ok := ab_inL B s9 c9 && ab_inL B t9 d9) hB hF hs2 hs1 (fun q => by
            rw [Bool.and_eq_true] at q
            exact ⟨ab_inL_ok hB hs2 q.1, ab_inL_ok hB hs1 q.2⟩) (fun q hq e1 e2 => kk q hq st2 e2 (by rw [e1]; exact hS2))
          refine W.lcmp hx hb hdg ?_
          refine ab_iz_row hx hb hz9 (hnx _ _ rfl) ht (fun h => hk.1 (ab_rel_cmp h)) (fun h => hk.2 (ab_rel_cmp h))
        · cases h
      · cases h
    · cases h
  · split at h
    · rename_i a9 S9
      split at h
      · rename_i n9 hn9
        obtain ⟨g, h⟩ := ab_co h
        have := ab_beq g; subst this
        obtain ⟨st1, rfl, hs1, hS1⟩ := ab_okS_pop hS
        have ht := ab_tg_ok hn9
        obtain ⟨t9, s9, c9⟩ := a9
        split at h
        · rename_i e9
          have e9 : t9 = 2 := e9
          subst e9
          cases h
          exact lv_ifnull hx hb hdg (kk (pc + 3, S9, B, F) List.mem_cons_self st1 ⟨rfl, hB, hF⟩ hS1)
        · rename_i e9
          have e9 : t9 = 3 := e9
          subst e9
          cases h
          exact lv_ifnullN hx hb hdg ht (kk (n9, S9, B, F) List.mem_cons_self st1 ⟨rfl, hB, hF⟩ hS1)
        · rename_i e9
          have e9 : t9 = 4 := e9
          subst e9
          cases h
          rcases ab_ref (ad := ad) (wr := wr) (cr := cr) (ρ := ρ) (a := (4, s9, c9)) rfl with ⟨x, hx1⟩ | hx1
          · rw [hx1]
            exact lv_ifnull hx hb hdg (kk (pc + 3, S9, B, F) (List.mem_cons_of_mem _ List.mem_cons_self) st1 ⟨rfl, hB, hF⟩ hS1)
          · rw [hx1]
            exact lv_ifnullN hx hb hdg ht (kk (n9, S9, B, F) List.mem_cons_self st1 ⟨rfl, hB, hF⟩ hS1)
        · rename_i e9
          have e9 : t9 = 5 := e9
          subst e9
          cases h
          exact lv_ifnull hx hb hdg (kk (pc + 3, S9, B, F) List.mem_cons_self st1 ⟨rfl, hB, hF⟩ hS1)
        · cases h
      · cases h
    · cases h
  · split at h
    · rename_i a9 S9
      split at h
      · rename_i n9 hn9
        obtain ⟨g, h⟩ := ab_co h
        have := ab_beq g; subst this
        obtain ⟨st1, rfl, hs1, hS1⟩ := ab_okS_pop hS
        have ht := ab_tg_ok hn9
        obtain ⟨t9, s9, c9⟩ := a9
        split at h
        · rename_i e9
          have e9 : t9 = 2 := e9
          subst e9
          cases h
          exact lv_ifnonnull hx hb hdg ht (kk (n9, S9, B, F) List.mem_cons_self st1 ⟨rfl, hB, hF⟩ hS1)
        · rename_i e9
          have e9 : t9 = 3 := e9
          subst e9
          cases h
          exact lv_ifnonnullN hx hb hdg (kk (pc + 3, S9, B, F) List.mem_cons_self st1 ⟨rfl, hB, hF⟩ hS1)
        · rename_i e9
          have e9 : t9 = 4 := e9
          subst e9
          cases h
          rcases ab_ref (ad := ad) (wr := wr) (cr := cr) (ρ := ρ) (a := (4, s9, c9)) rfl with ⟨x, hx1⟩ | hx1
          · rw [hx1]
            exact lv_ifnonnull hx hb hdg ht (kk (n9, S9, B, F) List.mem_cons_self st1 ⟨rfl, hB, hF⟩ hS1)
          · rw [hx1]
            exact lv_ifnonnullN hx hb hdg (kk (pc + 3, S9, B, F) (List.mem_cons_of_mem _ List.mem_cons_self) st1 ⟨rfl, hB, hF⟩ hS1)
        · rename_i e9
          have e9 : t9 = 5 := e9
          subst e9
          cases h
          exact lv_ifnonnull hx hb hdg ht (kk (n9, S9, B, F) List.mem_cons_self st1 ⟨rfl, hB, hF⟩ hS1)
        · cases h
      · cases h
    · cases h
  · split at h
    · rename_i cd9 o9 x9 a9 b9 S9
      split at h
      · rename_i n9 hn9
        obtain ⟨g, h2⟩ := ab_cs h
        rw [Bool.and_eq_true, Bool.and_eq_true] at g
        have := ab_beq g.1.1; subst this
        subst h2
        obtain ⟨st1, rfl, hs1, hS1⟩ := ab_okS_pop hS
        obtain ⟨st2, rfl, hs2, hS2⟩ := ab_okS_pop hS1
        have ht := ab_tg_ok hn9
        obtain ⟨xa, hxa⟩ := ab_rf (ad := ad) (wr := wr) (cr := cr) (ρ := ρ) g.1.2
        obtain ⟨xb, hxb⟩ := ab_rf (ad := ad) (wr := wr) (cr := cr) (ρ := ρ) g.2
        have k1 := kk (n9, S9, B, F) List.mem_cons_self st2 ⟨rfl, hB, hF⟩ hS2
        have k2 := kk (pc + 3, S9, B, F) (List.mem_cons_of_mem _ List.mem_cons_self) st2 ⟨rfl, hB, hF⟩ hS2
        rw [hxa, hxb]
        cases cd9 with
        | eq => exact lv_acmp_eq hx hb hdg ht (fun _ => k1) (fun _ => k2)
        | ne => exact lv_acmp_ne hx hb hdg ht (fun _ => k1) (fun _ => k2)
      · cases h
    · cases h
  · split at h
    · rename_i df9 lo9 hi9 of9 x9 s9 c9 S9
      split at h
      · rename_i n9 l9' hn9 hl9
        obtain ⟨g, h⟩ := ab_cs h
        rw [Bool.and_eq_true, Bool.and_eq_true, ab_le_iff, ab_le_iff] at g
        cases h
        obtain ⟨st1, rfl, hs1, hS1⟩ := ab_okS_pop hS
        have hs1 : s9 < B.length := hs1
        have ht := ab_tg_ok hn9
        have ex : (Int32.ofInt (ρ s9 + c9)).toInt = ρ s9 + c9 := ab_in_ok hB hs1 g.1.1
        rcases Int.lt_or_le (ρ s9 + c9) lo9 with q1 | q1
        · obtain ⟨q, hq, hq2⟩ := ab_as_ok (sp := sp) (r := 2) (c := c9) (t := 0) (d := lo9) hB hF hs1 hn (by show ρ s9 + c9 < ρ 0 + lo9; omega)
          refine lv_tableOut hx hb hdg (Or.inl ?_) ht (kk (n9, S9, q.1, q.2) (List.mem_append_left _ (ab_put_in (List.mem_append_left _ hq))) st1 hq2 hS1)
          show (Int32.ofInt (ρ s9 + c9)).toInt < lo9
          rw [ex]; exact q1
        · rcases Int.lt_or_le hi9 (ρ s9 + c9) with q2 | q2
          · obtain ⟨q, hq, hq2⟩ := ab_as_ok (sp := sp) (r := 4) (c := c9) (t := 0) (d := hi9) hB hF hs1 hn (by show ρ 0 + hi9 < ρ s9 + c9; omega)
            refine lv_tableOut hx hb hdg (Or.inr ?_) ht (kk (n9, S9, q.1, q.2) (List.mem_append_left _ (ab_put_in (List.mem_append_right _ hq))) st1 hq2 hS1)
            show hi9 < (Int32.ofInt (ρ s9 + c9)).toInt
            rw [ex]; exact q2
          · have hj : (ρ s9 + c9 - lo9).toNat < of9.size := by omega
            obtain ⟨n, q, a1, a2, a3⟩ := ab_tab_ok (sp := sp) hB hF h0 hn hs1 of9.toList lo9 l9' hl9 (ρ s9 + c9 - lo9).toNat of9[(ρ s9 + c9 - lo9).toNat] (by rw [Array.getElem?_toList]; exact Array.getElem?_eq_getElem hj) (by omega)
            refine lv_tableIn (off := of9[(ρ s9 + c9 - lo9).toNat]) hx hb hdg ?_ ?_ ?_ (ab_tg_ok a1) (kk (n, S9, q) (List.mem_append_right _ a2) st1 a3 hS1)
            · show ¬ (Int32.ofInt (ρ s9 + c9)).toInt < lo9
              rw [ex]; omega
            · show ¬ hi9 < (Int32.ofInt (ρ s9 + c9)).toInt
              rw [ex]; omega
            · show of9[((Int32.ofInt (ρ s9 + c9)).toInt - lo9).toNat]? = _
              rw [ex]; exact Array.getElem?_eq_getElem hj
      · cases h
    · cases h
  · split at h
    · rename_i r9 o9 t9 d9 s9 c9 S9 hi9
      split at h
      · rename_i n9 hn9
        obtain ⟨g, h⟩ := ab_cs h
        have := ab_beq g; subst this
        cases h
        obtain ⟨st1, rfl, hs1, hS1⟩ := ab_okS_pop hS
        obtain ⟨st2, rfl, hs2, hS2⟩ := ab_okS_pop hS1
        have hk := ab_two_ok (sp := sp) (S := S9) (P := fun q => W p l e R s m args below meth c H locs cells slots Q (F0 m q ls st2)) (X := (Int32.ofInt (ρ s9 + c9)).toInt) (Y := (Int32.ofInt (ρ t9 + d9)).toInt) (ok := ab_in B s9 c9 && ab_in B t9 d9) hB hF hs2 hs1 (fun q => by
          rw [Bool.and_eq_true] at q
          exact ⟨ab_in_ok hB hs2 q.1, ab_in_ok hB hs1 q.2⟩) (fun q hq e1 e2 => kk q hq st2 e2 (by rw [e1]; exact hS2))
        exact ab_ic_row hx hb hi9 hdg (ab_tg_ok hn9) hk.1 hk.2
      · cases h
    · split at h
      · rename_i r9 o9 s9 c9 S9 hi9 hneg9
        split at h
        · rename_i n9 hn9
          obtain ⟨g, h⟩ := ab_cs h
          have := ab_beq g; subst this
          cases h
          obtain ⟨st1, rfl, hs1, hS1⟩ := ab_okS_pop hS
          have hk := ab_two_ok (sp := sp) (S := S9) (P := fun q => W p l e R s m args below meth c H locs cells slots Q (F0 m q ls st1)) (X := (Int32.ofInt (ρ s9 + c9)).toInt) (Y := 0) (t9 := 0) (d9 := 0) (ok := ab_in B s9 c9) hB hF hs1 hn (fun q => ⟨ab_in_ok hB hs1 q, by omega⟩) (fun q hq e1 e2 => kk q hq st1 e2 (by rw [e1]; exact hS1))
          exact ab_iz_row hx hb hi9 hdg (ab_tg_ok hn9) hk.1 hk.2
        · cases h
      · cases h
end
