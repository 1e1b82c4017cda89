/-! contracts: what a method is given (its values, bounds, rows, known places) and its ends (the answer, bounds, rows, known places, places written) -/
abbrev ab_OU : Type := List ab_AV × ab_BD × ab_FT × ab_DL × ab_ML
abbrev ab_CN : Type := List ab_AV × ab_BD × ab_FT × ab_DL × List ab_OU
def ab_ps (cy : Nat → ClassId) (ad wr cr : Nat → Nat) (D : va_G) (cl : List vw_C) (sh : List ab_SP) (T : ab_RG) (C : ab_CT) (n0 : Nat) (ρ0 : Nat → Int) (σ0 : ab_SG) (o : ab_OU) (rv : Option Value) (H : Heap) : Prop :=
  ∃ (ρ' : Nat → Int) (σ' : ab_SG), (∀ i, i < n0 → ρ' i = ρ0 i) ∧ n0 ≤ o.2.1.length ∧ ab_K T C σ0 o.2.1 o.2.2.1 o.2.2.2.1 o.2.2.2.2 ρ' σ' ∧ ab_okS ad wr cr o.2.1.length ρ' o.1 rv.toList ∧ va_P D cl (ab_WD cy ad wr sh σ') H
/-- the cells that a method may change: the world's and new ones -/
def ab_A (ad : Nat → Nat) (N sz : Nat) : Nat → Prop := fun q => (∃ k, k < N ∧ q = ad k) ∨ sz ≤ q
def ab_QC (cy : Nat → ClassId) (ad wr cr : Nat → Nat) (D : va_G) (cl : List vw_C) (sh : List ab_SP) (T : ab_RG) (C : ab_CT) (n0 : Nat) (ρ0 : Nat → Int) (σ0 : ab_SG) (os : List ab_OU) (A : Nat → Prop) : Array Value → State → Outcome → State → Prop := fun _ st oc t =>
  (∃ (rv : Option Value) (o : ab_OU), oc = .returned rv ∧ o ∈ os ∧ ab_ps cy ad wr cr D cl sh T C n0 ρ0 σ0 o rv t.heap) ∧ va_F A st t
/-- links to nest mates -/
abbrev ab_NW : Type := List (String × Nat × MethodName × String)
def ab_okN (NW : ab_NW) (U : State) : Prop := ∀ q ∈ NW, va_Nw (.methodLinkNest q.1 q.2.1 q.2.2.1 q.2.2.2) U
def ab_PC (cy : Nat → ClassId) (ad wr cr : Nat → Nat) (D : va_G) (cl : List vw_C) (sh : List ab_SP) (NW : ab_NW) (kd : ab_KD) (σ : ab_SG) (av : List Value) (sz : Nat) : Array Value → State → Prop :=
  va_Pc av (fun U => U.heap.size = sz ∧ va_P D cl (ab_WD cy ad wr sh σ) U.heap ∧ va_K D cl (ab_tys cy) U ∧ ab_okN NW U ∧ ab_CB cy ad wr cr kd (ab_A ad sh.length sz) U)
theorem ab_PC_blind {cy : Nat → ClassId} {ad wr cr : Nat → Nat} {D : va_G} {cl : List vw_C} {sh : List ab_SP} {NW : ab_NW} {kd : ab_KD} {σ : ab_SG} {av : List Value} {sz : Nat} : FrameBlind (ab_PC cy ad wr cr D cl sh NW kd σ av sz) := by
  intro a U g mk h
  obtain ⟨h1, h2, h3, h4, h5, h6⟩ := h
  exact ⟨h1, h2, h3, va_K.moved (u := U) (U := U.calling g mk a) (Vm.Alike.refl U.vm) h4, fun q hq => va_Nw.same rfl (u := U) (U := U.calling g mk a) rfl (h5 q hq), ab_CB_blind h6⟩
section
variable {p : Program} {l : Launch} {e : Env} {R : Room} {s : State} {m : MethodId} {args : Array Value} {below : List Frame} {meth : Method} {c : Code} {H : Heap} {locs : List Loc} {cells slots : Nat} {Q : State → Prop} {cc : ByteArray} {pc : Nat} {ls : Array Slot} {st0 rest : List Value}
variable {ad wr cr : Nat → Nat} {cy : Nat → ClassId} {T : ab_RG} {C : ab_CT} {D : va_G} {cl : List vw_C} {sh : List ab_SP} {A0 A1 : Nat → Prop} {H0 : Heap}
theorem ab_callQ {n0 : Nat} {ρ0 : Nat → Int} {σ0 : ab_SG} {os : List ab_OU} {a : Array Value} {free : Addr → Prop} (hr : va_Run p l e R s m args below meth c H locs cells slots 0 0 (F0 m pc ls st0) rest (ab_QC cy ad wr cr D cl sh T C n0 ρ0 σ0 os A1 a) free) (hS : va_S A0 H0 H locs) (hA : ∀ q, q < H.size → A1 q → A0 q) (hf : ∀ q, free q → A0 q)
    (kk : ∀ (rv : Option Value) (o : ab_OU) (H1 : Heap) (locs1 : List Loc), o ∈ os → ab_ps cy ad wr cr D cl sh T C n0 ρ0 σ0 o rv H1 → va_S A0 H0 H1 locs1 → W p l e R s m args below meth c H1 locs1 cells slots Q (F0 m (pc + 3) ls (rv.toList ++ rest))) : W p l e R s m args below meth c H locs cells slots Q (F0 m pc ls st0) := by
  intro T9 hT X
  obtain ⟨v, st₀, t, T', L, h0, X', hL, e1, e2, ⟨⟨rv, o, hv, ho, hps⟩, hz, hk⟩, st⟩ := hr T9 hT X
  cases hv
  rw [h0] at hz hk
  obtain ⟨t2, a1, b1⟩ := kk v o T'.heap (locs ++ L) ho (by rw [e1]; exact hps)
    ⟨Nat.le_trans hS.1 (by rw [e1]; exact hz), fun q h1 h2 => by rw [e1, hk q (Nat.lt_of_lt_of_le h1 hS.1) (fun z => h2 (hA q (Nat.lt_of_lt_of_le h1 hS.1) z))]; exact hS.2.1 q h1 h2, fun q hq => by
      rcases List.mem_append.mp hq with h | h
      · exact hS.2.2 q h
      · exact hf _ (hL q h)⟩ T' rfl X'
  exact ⟨t2, st t2 a1, b1⟩
end
/-- an end's extra symbols become new ones -/
def ab_ext (n : Nat) : Nat → Nat → ab_TH
  | 0, _ => []
  | k + 1, i => (n + i, 0) :: ab_ext n k (i + 1)
theorem ab_ext_get (n : Nat) : ∀ (k i j : Nat), j < k → (ab_ext n k i)[j]? = some (n + i + j, 0) := by
  intro k
  induction k with
  | zero => intro i j h; exact absurd h (Nat.not_lt_zero _)
  | succ k ih =>
    intro i j h
    cases j with
    | zero => rfl
    | succ j =>
      show (ab_ext n k (i + 1))[j]? = _
      rw [ih (i + 1) j (by omega)]
      congr 2
      omega
theorem ab_ext_len (n : Nat) : ∀ (k i : Nat), (ab_ext n k i).length = k := by
  intro k
  induction k with
  | zero => intro i; rfl
  | succ k ih => intro i; show (ab_ext n k (i + 1)).length + 1 = k + 1; rw [ih]
/-- the bounds that an end gives to the symbols of the start -/
def ab_rf2 : ab_TH → ab_BD → ab_BD → ab_BD
  | q :: θ, b :: OB, B => ab_rf2 θ OB (B.set q.1 (ab_max (ab_lo B q.1) (b.1 - q.2), ab_min (ab_hi B q.1) (b.2 - q.2)))
  | _, _, B => B
theorem ab_rf2_ok {ρ : Nat → Int} : ∀ (θ : ab_TH) (OB B : ab_BD), ab_okB B ρ → (∀ (j : Nat) (q : Nat × Int) (b : Int × Int), θ[j]? = some q → OB[j]? = some b → b.1 ≤ ρ q.1 + q.2 ∧ ρ q.1 + q.2 ≤ b.2) → ab_okB (ab_rf2 θ OB B) ρ ∧ (ab_rf2 θ OB B).length = B.length := by
  intro θ
  induction θ with
  | nil => intro OB B h _; unfold ab_rf2; exact ⟨h, rfl⟩
  | cons q θ ih =>
    intro OB B h hj
    cases OB with
    | nil => unfold ab_rf2; exact ⟨h, rfl⟩
    | cons b OB =>
      unfold ab_rf2
      have h0 := hj 0 q b rfl rfl
      obtain ⟨g1, g2⟩ := ih OB (B.set q.1 (ab_max (ab_lo B q.1) (b.1 - q.2), ab_min (ab_hi B q.1) (b.2 - q.2))) (ab_okB_set h q.1 (fun hq => by
        have hb := h q.1 hq
        exact ⟨ab_max_le hb.1 (by omega), ab_le_min hb.2 (by omega)⟩)) (fun j q' b' h1 h2 => hj (j + 1) q' b' h1 h2)
      exact ⟨g1, by rw [g2, List.length_set]⟩
/-- some bounds leave nothing -/
def ab_no (B : ab_BD) : Bool := B.any (fun b => !(ab_le b.1 b.2))
theorem ab_no_ok {B : ab_BD} {ρ : Nat → Int} (h : ab_okB B ρ) : ab_no B = false := by
  rw [← Bool.not_eq_true]
  intro q
  obtain ⟨b, hb, hb2⟩ := List.any_eq_true.mp q
  obtain ⟨i, hi⟩ := List.getElem?_of_mem hb
  have h2 := h i (List.getElem?_eq_some_iff.mp hi).1
  unfold ab_lo ab_hi at h2
  rw [List.getD_eq_getElem?_getD, hi] at h2
  have h3 : b.1 ≤ b.2 := Int.le_trans h2.1 h2.2
  rw [ab_le_iff.mpr h3] at hb2
  cases hb2
def ab_sub (θ : ab_TH) (a : ab_AV) : ab_AV := match a.1 with
  | 2 => a
  | 3 => a
  | 0 => (match θ[a.2.1]? with | some q => (0, q.1, q.2 + a.2.2) | none => a)
  | 1 => (match θ[a.2.1]? with | some q => (1, q.1, q.2 + a.2.2) | none => a)
  | 4 => (match θ[a.2.1]? with | some q => (4, q.1, q.2 + a.2.2) | none => a)
  | _ => a
theorem ab_sub_ok {θ : ab_TH} {ρ : Nat → Int} {ad wr cr : Nat → Nat} {n : Nat} {a : ab_AV} (hθ : ∀ q ∈ θ, q.1 < n) (h : ab_sy θ.length a) : ab_V ad wr cr ρ (ab_sub θ a) = ab_V ad wr cr (ab_thv θ ρ) a ∧ ab_sy n (ab_sub θ a) := by
  obtain ⟨t, s, c⟩ := a
  have key : ∀ (hs : s < θ.length), ∃ q, θ[s]? = some q ∧ q.1 < n ∧ ab_thv θ ρ s = ρ q.1 + q.2 := by
    intro hs
    refine ⟨θ[s], List.getElem?_eq_getElem hs, hθ _ (List.getElem_mem hs), ?_⟩
    unfold ab_thv
    rw [List.getElem?_eq_getElem hs]
  match t, h with
  | 0, h =>
    obtain ⟨q, g1, g2, g3⟩ := key h
    have e1 : ab_sub θ (0, s, c) = (0, q.1, q.2 + c) := by unfold ab_sub; rw [g1]; rfl
    rw [e1]
    exact ⟨by show Value.int _ = Value.int _; rw [g3, Int.add_assoc], g2⟩
  | 1, h =>
    obtain ⟨q, g1, g2, g3⟩ := key h
    have e1 : ab_sub θ (1, s, c) = (1, q.1, q.2 + c) := by unfold ab_sub; rw [g1]; rfl
    rw [e1]
    exact ⟨by show Value.long _ = Value.long _; rw [g3, Int.add_assoc], g2⟩
  | 2, _ => exact ⟨rfl, trivial⟩
  | 3, _ => exact ⟨rfl, trivial⟩
  | 4, h =>
    obtain ⟨q, g1, g2, g3⟩ := key h
    have e1 : ab_sub θ (4, s, c) = (4, q.1, q.2 + c) := by unfold ab_sub; rw [g1]; rfl
    rw [e1]
    exact ⟨by show ab_wv _ _ = ab_wv _ _; rw [g3, Int.add_assoc], g2⟩
  | n + 5, _ => exact ⟨rfl, trivial⟩
def ab_sn (θ : ab_TH) (q : Nat × Int) : Nat × Int := match θ[q.1]? with
  | some x => (x.1, x.2 + q.2)
  | none => q
theorem ab_sn_ok {θ : ab_TH} {ρ : Nat → Int} {n : Nat} {q : Nat × Int} (hθ : ∀ q ∈ θ, q.1 < n) (h : q.1 < θ.length) : (ab_sn θ q).1 < n ∧ ρ (ab_sn θ q).1 + (ab_sn θ q).2 = ab_thv θ ρ q.1 + q.2 := by
  unfold ab_sn ab_thv
  rw [List.getElem?_eq_getElem h]
  show (θ[q.1]).1 < n ∧ ρ (θ[q.1]).1 + ((θ[q.1]).2 + q.2) = ρ (θ[q.1]).1 + (θ[q.1]).2 + q.2
  exact ⟨hθ _ (List.getElem_mem h), (Int.add_assoc _ _ _).symm⟩
def ab_kp (M : ab_ML) (Dl : ab_DL) : ab_DL := Dl.filter (fun d => !(M.any (fun q => q.1.beq d.1.1 && (q.2.beq d.1.2 || q.2.beq 1000000 || !(d.1.2.ble 1999999)))))
/-- behind a call, at the end o: th for the callee's start, n0 its symbols -/
def ab_af (θ : ab_TH) (n0 : Nat) (o : ab_OU) (B : ab_BD) (F : ab_FT) (Dl : ab_DL) (M : ab_ML) : List ab_AV × ab_BD × ab_FT × ab_DL × ab_ML :=
  let θ' := θ ++ ab_ext B.length (o.2.1.length - n0) 0
  (o.1.map (ab_sub θ'), ab_rf2 θ (o.2.1.take n0) (B ++ o.2.1.drop n0), o.2.2.1.map (fun f => ((ab_sn θ' (f.1, 0)).1, (ab_sn θ' (f.2.1, 0)).1, f.2.2 - (ab_sn θ' (f.1, 0)).2 + (ab_sn θ' (f.2.1, 0)).2)) ++ F, o.2.2.2.1.filterMap (fun d => match ab_mk θ' d.1.2 with | some j => some ((d.1.1, j), ab_sn θ' d.2) | none => none) ++ ab_kp o.2.2.2.2 Dl, o.2.2.2.2 ++ M)
theorem ab_af_ok {T : ab_RG} {C : ab_CT} {σ0 σ σ' : ab_SG} {B : ab_BD} {F : ab_FT} {Dl : ab_DL} {M : ab_ML} {ρ ρ' : Nat → Int} {θ : ab_TH} {n0 : Nat} {o : ab_OU} {ad wr cr : Nat → Nat} {rl : List Value}
    (hK : ab_K T C σ0 B F Dl M ρ σ) (hθ : ∀ q ∈ θ, q.1 < B.length) (hn : θ.length = n0) (hag : ∀ i, i < n0 → ρ' i = ab_thv θ ρ i) (hle : n0 ≤ o.2.1.length) (hO : ab_K T C σ o.2.1 o.2.2.1 o.2.2.2.1 o.2.2.2.2 ρ' σ') (hr : ab_okS ad wr cr o.2.1.length ρ' o.1 rl) :
    ∃ ρ2 : Nat → Int, ab_K T C σ0 (ab_af θ n0 o B F Dl M).2.1 (ab_af θ n0 o B F Dl M).2.2.1 (ab_af θ n0 o B F Dl M).2.2.2.1 (ab_af θ n0 o B F Dl M).2.2.2.2 ρ2 σ' ∧ B.length ≤ (ab_af θ n0 o B F Dl M).2.1.length ∧ (∀ i, i < B.length → ρ2 i = ρ i) ∧ ab_okS ad wr cr (ab_af θ n0 o B F Dl M).2.1.length ρ2 (ab_af θ n0 o B F Dl M).1 rl := by
  obtain ⟨a1, b1, f1, d1, m1⟩ := o
  obtain ⟨k1, k2, k3, k4, k5, k6, k7, k8⟩ := hK
  obtain ⟨o1, o2, o3, o4, o5, o6, o7, o8⟩ := hO
  dsimp only at hle o1 o2 o4 o5 o8 hr
  let ρ2 : Nat → Int := fun i => if i < B.length then ρ i else ρ' (n0 + (i - B.length))
  have hρ2 : ∀ i, i < B.length → ρ2 i = ρ i := fun i hi => if_pos hi
  have hlen0 : (B ++ b1.drop n0).length = B.length + (b1.length - n0) := by rw [List.length_append, List.length_drop]
  have hB0 : ab_okB (B ++ b1.drop n0) ρ2 := by
    intro i hi
    rw [hlen0] at hi
    unfold ab_lo ab_hi
    rw [List.getD_eq_getElem?_getD]
    by_cases hlt : i < B.length
    · rw [List.getElem?_append_left hlt, hρ2 i hlt]
      have := k1 i hlt
      unfold ab_lo ab_hi at this
      rw [List.getD_eq_getElem?_getD] at this
      exact this
    · rw [List.getElem?_append_right (Nat.not_lt.mp hlt), List.getElem?_drop]
      have e : ρ2 i = ρ' (n0 + (i - B.length)) := if_neg hlt
      rw [e]
      have := o1 (n0 + (i - B.length)) (by omega)
      unfold ab_lo ab_hi at this
      rw [List.getD_eq_getElem?_getD] at this
      exact this
  have hθ2 : ∀ i, i < n0 → ρ' i = ab_thv θ ρ2 i := by
    intro i hi
    rw [hag i hi]
    unfold ab_thv
    rw [List.getElem?_eq_getElem (by omega)]
    show ρ _ + _ = ρ2 _ + _
    rw [hρ2 _ (hθ _ (List.getElem_mem _))]
  obtain ⟨r1, r2⟩ := ab_rf2_ok (ρ := ρ2) θ (b1.take n0) (B ++ b1.drop n0) hB0 (by
    intro j q b hj hb
    have hj2 := (List.getElem?_eq_some_iff.mp hj).1
    rw [List.getElem?_take_of_lt (by omega)] at hb
    have h1 := o1 j (List.getElem?_eq_some_iff.mp hb).1
    rw [hθ2 j (by omega)] at h1
    unfold ab_thv ab_lo ab_hi at h1
    rw [hj, List.getD_eq_getElem?_getD, hb] at h1
    exact h1)
  let θ' := θ ++ ab_ext B.length (b1.length - n0) 0
  have hθl : θ'.length = b1.length := by
    show (θ ++ ab_ext B.length (b1.length - n0) 0).length = _
    rw [List.length_append, ab_ext_len, hn]
    omega
  have hθ'lt : ∀ q ∈ θ', q.1 < B.length + (b1.length - n0) := by
    intro q hq
    rcases List.mem_append.mp hq with hq | hq
    · have := hθ q hq; omega
    · obtain ⟨j, hj⟩ := List.getElem?_of_mem hq
      have hj2 := (List.getElem?_eq_some_iff.mp hj).1
      rw [ab_ext_len] at hj2
      rw [ab_ext_get _ _ _ _ hj2] at hj
      cases hj
      show B.length + 0 + j < _
      omega
  have hθ'v : ∀ i, i < b1.length → ab_thv θ' ρ2 i = ρ' i := by
    intro i hi
    by_cases hlt : i < n0
    · rw [hθ2 i hlt]
      unfold ab_thv
      rw [List.getElem?_append_left (by omega)]
    · unfold ab_thv
      rw [List.getElem?_append_right (by omega), ab_ext_get _ _ _ _ (by omega)]
      show ρ2 (B.length + 0 + (i - θ.length)) + 0 = ρ' i
      have e : ρ2 (B.length + 0 + (i - θ.length)) = ρ' (n0 + (B.length + 0 + (i - θ.length) - B.length)) := if_neg (by omega)
      rw [e, Int.add_zero]
      congr 1
      omega
  refine ⟨ρ2, ⟨r1, ?_, (hρ2 0 k4).trans k3, ?_, ?_, o6, o7, ?_⟩, ?_, hρ2, ?_⟩
  · show ab_okF (ab_rf2 θ (b1.take n0) (B ++ b1.drop n0)).length _ _
    rw [r2, hlen0]
    intro f hf
    rcases List.mem_append.mp hf with hf | hf
    · obtain ⟨x, hx, rfl⟩ := List.mem_map.mp hf
      obtain ⟨x1, x2, x3⟩ := o2 x hx
      obtain ⟨u1, u2⟩ := ab_sn_ok (ρ := ρ2) (q := (x.1, 0)) hθ'lt (by rw [hθl]; exact x1)
      obtain ⟨w1, w2⟩ := ab_sn_ok (ρ := ρ2) (q := (x.2.1, 0)) hθ'lt (by rw [hθl]; exact x2)
      refine ⟨u1, w1, ?_⟩
      have y1 := hθ'v x.1 x1
      have y2 := hθ'v x.2.1 x2
      replace u2 : ρ2 (ab_sn θ' (x.1, 0)).1 + (ab_sn θ' (x.1, 0)).2 = ab_thv θ' ρ2 x.1 + 0 := u2
      replace w2 : ρ2 (ab_sn θ' (x.2.1, 0)).1 + (ab_sn θ' (x.2.1, 0)).2 = ab_thv θ' ρ2 x.2.1 + 0 := w2
      show ρ2 (ab_sn θ' (x.1, 0)).1 - ρ2 (ab_sn θ' (x.2.1, 0)).1 ≤ x.2.2 - (ab_sn θ' (x.1, 0)).2 + (ab_sn θ' (x.2.1, 0)).2
      omega
    · obtain ⟨x1, x2, x3⟩ := k2 f hf
      exact ⟨by omega, by omega, by rw [hρ2 _ x1, hρ2 _ x2]; exact x3⟩
  · show 0 < (ab_rf2 θ (b1.take n0) (B ++ b1.drop n0)).length
    rw [r2, hlen0]
    omega
  · show ab_okD (ab_rf2 θ (b1.take n0) (B ++ b1.drop n0)).length _ _ _
    rw [r2, hlen0]
    intro d hd
    rcases List.mem_append.mp hd with hd | hd
    · obtain ⟨x, hx, hxd⟩ := List.mem_filterMap.mp hd
      split at hxd
      · rename_i j9 hj9
        cases hxd
        obtain ⟨x1, x3, x2⟩ := o5 x hx
        obtain ⟨u1, u2⟩ := ab_sn_ok (ρ := ρ2) (q := x.2) hθ'lt (by rw [hθl]; exact x1)
        obtain ⟨-, m2, m3⟩ := ab_mk_ok (ρ := ρ2) hθ'lt hj9
        refine ⟨u1, m2, ?_⟩
        show σ' x.1.1 (ab_kv ρ2 j9) = ρ2 (ab_sn θ' x.2).1 + (ab_sn θ' x.2).2
        rw [u2, hθ'v _ x1, m3, ab_kv_ext (ρ := ρ') x3 (fun i hi => hθ'v i hi)]
        exact x2
      · cases hxd
    · obtain ⟨g1, g2⟩ := List.mem_filter.mp hd
      obtain ⟨x1, x3, x2⟩ := k5 d g1
      refine ⟨by omega, ab_kn_mono x3 (by omega), ?_⟩
      rw [hρ2 _ x1, ← x2, ab_kv_ext x3 hρ2]
      refine o8 d.1.1 _ (fun q hq hq2 => ?_)
      have : (m1.any (fun q => q.1.beq d.1.1 && (q.2.beq d.1.2 || q.2.beq 1000000 || !(d.1.2.ble 1999999)))) = true := by
        refine List.any_eq_true.mpr ⟨q, hq, ?_⟩
        rw [Bool.and_eq_true, Bool.or_eq_true, Bool.or_eq_true, hq2.1]
        refine ⟨Nat.beq_refl _, ?_⟩
        cases hc : d.1.2.ble 1999999 with
        | false => exact Or.inr rfl
        | true =>
          rw [ab_kv_pl hc] at hq2
          rcases hq2.2 with g | g
          · rw [g]; exact Or.inl (Or.inl (Nat.beq_refl _))
          · rw [g]; exact Or.inl (Or.inr (Nat.beq_refl _))
      rw [this] at g2
      cases g2
  · intro a b hab
    rw [o8 a b (fun q hq => hab q (List.mem_append_left _ hq))]
    exact k8 a b (fun q hq => hab q (List.mem_append_right _ hq))
  · show B.length ≤ (ab_rf2 θ (b1.take n0) (B ++ b1.drop n0)).length
    rw [r2, hlen0]
    omega
  · show ab_okS ad wr cr (ab_rf2 θ (b1.take n0) (B ++ b1.drop n0)).length ρ2 (a1.map (ab_sub θ')) rl
    rw [r2, hlen0]
    have key : ∀ a ∈ a1, ab_V ad wr cr ρ2 (ab_sub θ' a) = ab_V ad wr cr ρ' a ∧ ab_sy (B.length + (b1.length - n0)) (ab_sub θ' a) := by
      intro a ha
      obtain ⟨g1, g2⟩ := ab_sub_ok (ρ := ρ2) (ad := ad) (wr := wr) (cr := cr) (a := a) hθ'lt (by rw [hθl]; exact hr.2 a ha)
      exact ⟨g1.trans (ab_V_ext (hr.2 a ha) (fun i hi => hθ'v i hi)), g2⟩
    refine ⟨?_, fun a ha => ?_⟩
    · rw [hr.1, List.map_map]
      exact List.map_congr_left (fun a ha => (key a ha).1.symm)
    · obtain ⟨x, hx, rfl⟩ := List.mem_map.mp ha
      exact (key x hx).2
