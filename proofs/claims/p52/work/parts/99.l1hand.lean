/-! contracts of the reference by hand: how many bits, which bit -/
/-- bits, by hand -/
def gd_bits1 : ab_CN := ([(0, 1, 0)], [(0, 0), (1, 511)], [], [], [([(0, 2, 0)], [(0, 0), (1, 511), (1, 9)], [], [((131, 2001000), (2, 0))], [])])
/-- bits, by hand -/
def gd_bits0 : ab_CN := ([(0, 1, 0)], [(0, 0), (0, 511)], [], [], [([(0, 2, 0)], [(0, 0), (0, 511), (0, 9)], [], [((131, 2001000), (2, 0))], [])])
/-- has, by hand -/
def gd_has0 : ab_CN := ([(0, 1, 0), (0, 0, 0)], [(0, 0), (0, 511)], [], [], [([(0, 0, 0)], [(0, 0), (0, 511)], [], [((132, 2001000), (0, 0))], []),
    ([(0, 0, 1)], [(0, 0), (0, 511)], [], [((132, 2001000), (0, 1))], [])])
/-- has, by hand -/
def gd_has1 : ab_CN := ([(0, 1, 0), (0, 0, 1)], [(0, 0), (0, 511), (0, 9)], [], [((132, 2001000), (2, 0))], [([(0, 0, 0)], [(0, 0), (0, 511), (0, 9)], [], [((133, 2001000), (2, 0))], []),
    ([(0, 0, 1)], [(0, 0), (0, 511), (0, 9)], [], [((133, 2001000), (2, 1))], [])])
/-- has, by hand -/
def gd_has2 : ab_CN := ([(0, 1, 0), (0, 0, 2)], [(0, 0), (0, 511), (0, 9)], [], [((133, 2001000), (2, 0))], [([(0, 0, 0)], [(0, 0), (0, 511), (0, 9)], [], [((134, 2001000), (2, 0))], []),
    ([(0, 0, 1)], [(0, 0), (0, 511), (0, 9)], [], [((134, 2001000), (2, 1))], [])])
/-- has, by hand -/
def gd_has3 : ab_CN := ([(0, 1, 0), (0, 0, 3)], [(0, 0), (0, 511), (0, 9)], [], [((134, 2001000), (2, 0))], [([(0, 0, 0)], [(0, 0), (0, 511), (0, 9)], [], [((135, 2001000), (2, 0))], []),
    ([(0, 0, 1)], [(0, 0), (0, 511), (0, 9)], [], [((135, 2001000), (2, 1))], [])])
/-- has, by hand -/
def gd_has4 : ab_CN := ([(0, 1, 0), (0, 0, 4)], [(0, 0), (0, 511), (0, 9)], [], [((135, 2001000), (2, 0))], [([(0, 0, 0)], [(0, 0), (0, 511), (0, 9)], [], [((136, 2001000), (2, 0))], []),
    ([(0, 0, 1)], [(0, 0), (0, 511), (0, 9)], [], [((136, 2001000), (2, 1))], [])])
/-- has, by hand -/
def gd_has5 : ab_CN := ([(0, 1, 0), (0, 0, 5)], [(0, 0), (0, 511), (0, 9)], [], [((136, 2001000), (2, 0))], [([(0, 0, 0)], [(0, 0), (0, 511), (0, 9)], [], [((137, 2001000), (2, 0))], []),
    ([(0, 0, 1)], [(0, 0), (0, 511), (0, 9)], [], [((137, 2001000), (2, 1))], [])])
/-- has, by hand -/
def gd_has6 : ab_CN := ([(0, 1, 0), (0, 0, 6)], [(0, 0), (0, 511), (0, 9)], [], [((137, 2001000), (2, 0))], [([(0, 0, 0)], [(0, 0), (0, 511), (0, 9)], [], [((138, 2001000), (2, 0))], []),
    ([(0, 0, 1)], [(0, 0), (0, 511), (0, 9)], [], [((138, 2001000), (2, 1))], [])])
/-- has, by hand -/
def gd_has7 : ab_CN := ([(0, 1, 0), (0, 0, 7)], [(0, 0), (0, 511), (0, 9)], [], [((138, 2001000), (2, 0))], [([(0, 0, 0)], [(0, 0), (0, 511), (0, 9)], [], [((139, 2001000), (2, 0))], []),
    ([(0, 0, 1)], [(0, 0), (0, 511), (0, 9)], [], [((139, 2001000), (2, 1))], [])])
/-- has, by hand -/
def gd_has8 : ab_CN := ([(0, 1, 0), (0, 0, 8)], [(0, 0), (0, 511), (0, 9), (0, 9)], [], [((139, 2001000), (2, 0)), ((131, 2001000), (3, 0))], [([(0, 0, 0)], [(0, 0), (0, 511), (0, 9), (0, 9)], [(3, 2, 0), (2, 3, 0)], [], []),
    ([(0, 0, 1)], [(0, 0), (0, 511), (0, 9), (0, 9)], [(3, 2, 1), (2, 3, (-1))], [], [])])
/-! a contract by a run of its body by hand; how many bits, which bit -/
/-- a contract out of a run of its body, from the entry on -/
theorem nn_holdW {l : Launch} {cy : Nat → ClassId} {ad wr cr : Nat → Nat} {D : va_G} {own : String} {KI KJ : List (Nat × Int)} {PF : ab_PT} {PS : ab_PS} {PM : ab_PC2} {KS : ab_KS} {lev mn : Nat} {ct : ab_CN} {mr : ab_MR} {dt : ab_DT}
    (hinj : nn_inj ad) (hmr : nn_MT[mn]? = some mr) (hdt : nn_DT[mn]? = some dt)
    (hpre : ((1 : Nat).ble ct.2.1.length && (!mr.2.2.2.2.2.1 || nn_rcB vwCl nn_sh mr.1.cls ct.1) && (ab_cat ct.1).ble mr.2.2.1 && nn_rkB mr.2.2.2.2.2.2 mr.2.2.2.1 && plainName mr.1.cls && decide (mr.1.cls = own)) = true)
    (hKI : ∀ q ∈ KI, Jvm.Cond.constant own q.1 (Int32.ofInt q.2) ∈ nn_TT) (hKJ : ∀ q ∈ KJ, Jvm.Cond.constantLong own q.1 (Int64.ofInt q.2) ∈ nn_TT) (hPF : ∀ q ∈ PF, ab_fok vwCl nn_TT own q) (hPS : ∀ q ∈ PS, ab_psok nn_TT nn_kd own q) (hPM : ∀ q ∈ PM, ab_mlk nn_MT nn_TT nn_NW own q)
    (hKS : ∀ q ∈ KS, nn_H l cy ad wr cr D q)
    (body : ∀ (p : Program) (e : Env) (s : State) (m : MethodId) (below : List Frame) (meth : Method) (c : Code) (R : Room) (Q : State → Prop) (ρ : Nat → Int) (σ : ab_SG),
      ab_Ev p l s m (ct.1.map (ab_V ad wr cr ρ)).toArray meth c mr.2.1 mr.2.2.1 lev R cy ad wr cr D vwCl nn_sh nn_T nn_C own (ab_A ad nn_sh.length s.heap.size) s.heap (Jvm.Cond.code mr.1 mr.2.1 mr.2.2.1 mr.2.2.2.1 :: nn_TT) nn_TT nn_NW nn_MT KI KJ PF nn_kd PS PM KS 0 ct.2.1.length ρ 0 0 dt σ →
      ab_K nn_T nn_C σ ct.2.1 ct.2.2.1 ct.2.2.2.1 [] ρ σ → (∀ a ∈ ct.1, ab_sy ct.2.1.length a) → va_P D vwCl (ab_WD cy ad wr nn_sh σ) s.heap →
      (∀ (pc : Nat) (X : ab_AS) (ρ2 : Nat → Int) (σ2 : ab_SG) (H : Heap) (locs : List Loc) (ls : Array Slot) (st : List Value) (i : Instr) (len : Nat), decode mr.2.1 pc = .ok (i, len) → ab_rt nn_T ct.2.1.length ct.2.2.2.2 mr.2.2.2.2.2.2 i len X = true → ab_Gm cy ad wr cr D vwCl nn_sh nn_T nn_C mr.2.2.1 ct.2.1.length ρ σ (ab_A ad nn_sh.length s.heap.size) s.heap X ρ2 σ2 H locs ls st → W p l e R s m (ct.1.map (ab_V ad wr cr ρ)).toArray below meth c H locs 0 0 Q (F0 m pc ls st)) →
      W p l e R s m (ct.1.map (ab_V ad wr cr ρ)).toArray below meth c s.heap [] 0 0 Q (entryFrame m (ct.1.map (ab_V ad wr cr ρ)).toArray mr.2.2.1)) :
    nn_H l cy ad wr cr D (mn, lev, ct) := by
  intro mr9 hmr9
  replace hmr9 : nn_MT[mn]? = some mr9 := hmr9
  rw [hmr] at hmr9
  cases hmr9
  rw [Bool.and_eq_true, Bool.and_eq_true, Bool.and_eq_true, Bool.and_eq_true, Bool.and_eq_true, Bool.or_eq_true, Bool.not_eq_true', decide_eq_true_eq] at hpre
  obtain ⟨⟨⟨⟨⟨h1, h2⟩, h3⟩, h4⟩, hy⟩, hown⟩ := hpre
  refine ⟨Nat.le_of_ble_eq_true h1, fun g => ?_, fun ρ σ sz hK hsy => ?_⟩
  · rcases h2 with h2 | h2
    · rw [g] at h2; cases h2
    · exact nn_rc_ok h2
  refine Met.ofW (cc := mr.2.1) (maxL := mr.2.2.1) (ret := mr.2.2.2.1) hy rfl ?_
  intro p e s m args below meth c s₁ B hml hv
  obtain ⟨rfl, hsz, hP, hKK, hN, hCB⟩ := hv
  have hts := atoms_spec (ws := Jvm.Cond.code mr.1 mr.2.1 mr.2.2.1 mr.2.2.2.1 :: nn_TT) B.pre
  have hown2 : s.vm.findClass own = some m.cls := by rw [← hown]; exact findClass_of_methodNamed B.named
  subst hsz
  have hA : ∀ k, k < nn_sh.length → ab_A ad nn_sh.length s.heap.size (ad k) := fun k hk => Or.inl ⟨k, hk, rfl⟩
  have hsub : ∀ w ∈ nn_TT, w ∈ (Jvm.Cond.code mr.1 mr.2.1 mr.2.2.1 mr.2.2.2.1 :: nn_TT) := fun w hw => List.mem_cons_of_mem _ hw
  refine body p e s m below meth c (headSpec (Jvm.Cond.code mr.1 mr.2.1 mr.2.2.1 mr.2.2.2.1 :: nn_TT) (ab_room lev)).room _ ρ σ
    ⟨B.exec, B.bytes, hml, hown2, hts, hKK, hN, fun w hw => ⟨hsub w hw, nn_TT_good w hw⟩, nn_MT_code, hA, fun q hq => Or.inr hq, fun q hq => ab_mlk_mono (hPM q hq) hsub, hKS, ⟨Nat.le_refl _, Nat.le_refl _⟩, fun q hq => hts _ (hsub _ (hKI q hq)), fun q hq => hts _ (hsub _ (hKJ q hq)), fun q hq => ab_fok_mono (hPF q hq) hsub, ab_WD_D hinj hA, hCB, rfl, fun q hq => ab_psok_mono (hPS q hq) hsub, ⟨Nat.zero_le _, Nat.zero_le _⟩, (fun q => by cases q), nn_DT_ok hmr hdt⟩
    hK hsy hP (fun pc X ρ2 σ2 H locs ls2 st i len hd hr hG => ab_rt_ok B.exec B.bytes B.returns (nn_rk_ok h4) B.notSynchronized hr hd hG)
/-- the constant rows -/
theorem nh_rows : ∀ x, x < 9 → ∀ v, v < 512 → ab_rdT nn_T (131 + x) v v = some (((nn_pop (cond (x.beq 0) 9 x) v : Nat) : Int), ((nn_pop (cond (x.beq 0) 9 x) v : Nat) : Int)) := by decide +kernel
theorem nh_tab {σ : ab_SG} (h : ab_okR nn_T σ) {x v : Nat} (hx : x < 9) (hv : v < 512) : σ (131 + x) v = ((nn_pop (cond (x.beq 0) 9 x) v : Nat) : Int) := by
  have h1 := ab_rdT_ok h (nh_rows x hx v hv) (Nat.le_refl v) (Nat.le_refl v)
  exact Int.le_antisymm h1.2 h1.1
theorem nh_tab9 {σ : ab_SG} (h : ab_okR nn_T σ) {v : Nat} (hv : v < 512) : σ 131 v = ((nn_pop 9 v : Nat) : Int) := nh_tab h (x := 0) (by decide) hv
theorem nh_tabx {σ : ab_SG} (h : ab_okR nn_T σ) {x v : Nat} (h1 : 1 ≤ x) (hx : x < 9) (hv : v < 512) : σ (131 + x) v = ((nn_pop x v : Nat) : Int) := by
  have h2 := nh_tab h hx hv
  have h3 : x.beq 0 = false := by
    cases hc : x.beq 0 with
    | false => rfl
    | true => have := Nat.eq_of_beq_eq_true hc; omega
  rw [h3] at h2
  exact h2
theorem nh_kv {ρ : Nat → Int} : ab_kv ρ 2001000 = (ρ 1).toNat := by
  show (ρ 1 + 0).toNat = _
  rw [Int.add_zero]
/-- one bit -/
theorem nh_bit : ∀ x, x < 9 → ∀ v, v < 512 → (((Int32.ofInt ((v : Nat) : Int) >>> (Int32.ofInt ((x : Nat) : Int) &&& 31)) &&& 1 = 1) ↔ v / 2 ^ x % 2 = 1) := by decide +kernel
/-- the lowest bit taken away -/
theorem nh_low : ∀ v, v < 512 → v ≠ 0 → Int32.ofInt ((v : Nat) : Int) ≠ 0 ∧ Int32.ofInt ((v : Nat) : Int) &&& (Int32.ofInt ((v : Nat) : Int) - 1) = Int32.ofInt ((v &&& (v - 1) : Nat) : Int) ∧ v &&& (v - 1) < 512 ∧ nn_pop 9 (v &&& (v - 1)) + 1 = nn_pop 9 v := by decide +kernel
theorem nh_pos : ∀ v, v < 512 → nn_pop 9 v ≤ 9 ∧ (v ≠ 0 → 1 ≤ nn_pop 9 v) ∧ (nn_pop 9 v = 0 → v = 0) := by decide +kernel
section
variable {p : Program} {l : Launch} {e : Env} {R : Room} {s : State} {m : MethodId} {args : Array Value} {below : List Frame} {meth : Method} {c : Code} {H : Heap} {locs : List Loc} {cells slots : Nat} {Q : State → Prop}
theorem nh_has_run {a b : Int32} {ls : Array Slot} (hx : p.tables.exec = Jvm.exec) (hb : c.code = prog_14_method_9_code) (hl : lv_has ls 2 [(0, .int a), (1, .int b)])
    (k1 : (a >>> (b &&& 31)) &&& 1 = 1 → W p l e R s m args below meth c H locs cells slots Q (F0 m 14 ls [.int 1])) (k0 : ¬ (a >>> (b &&& 31)) &&& 1 = 1 → W p l e R s m args below meth c H locs cells slots Q (F0 m 14 ls [.int 0])) :
    W p l e R s m args below meth c H locs cells slots Q (F0 m 0 ls []) := by
  refine lv_iload_n hx hb (show decode prog_14_method_9_code 0 = .ok (.iload_n 0, 1) by decide +kernel) rfl (lv_at hl 0 rfl) ?_
  refine lv_iload_n hx hb (show decode prog_14_method_9_code 1 = .ok (.iload_n 1, 1) by decide +kernel) rfl (lv_at hl 1 rfl) ?_
  refine lv_ishr hx hb (show decode prog_14_method_9_code 2 = .ok (.ishr, 1) by decide +kernel) ?_
  refine lv_iconst (v := 1) hx hb (show decode prog_14_method_9_code 3 = .ok (.iconst 1, 1) by decide +kernel) (by decide) ?_
  refine lv_iand hx hb (show decode prog_14_method_9_code 4 = .ok (.iand, 1) by decide +kernel) ?_
  refine lv_iconst (v := 1) hx hb (show decode prog_14_method_9_code 5 = .ok (.iconst 1, 1) by decide +kernel) (by decide) ?_
  refine lv_icmp_ne (tgt := 13) hx hb (show decode prog_14_method_9_code 6 = .ok (.if_icmp .ne 7, 3) by decide +kernel) (by decide) (fun h => ?_) (fun h => ?_)
  · refine lv_iconst (v := 0) hx hb (show decode prog_14_method_9_code 13 = .ok (.iconst 0, 1) by decide +kernel) (by decide) ?_
    exact k0 h
  · refine lv_iconst (v := 1) hx hb (show decode prog_14_method_9_code 9 = .ok (.iconst 1, 1) by decide +kernel) (by decide) ?_
    refine lv_goto (tgt := 14) hx hb (show decode prog_14_method_9_code 10 = .ok (.goto 4, 3) by decide +kernel) (by decide) ?_
    exact k1 h
theorem nh_bits_run (hx : p.tables.exec = Jvm.exec) (hb : c.code = prog_14_method_10_code) {a0 : Int32} : ∀ (k v n : Nat) (ls : Array Slot), v < 512 → nn_pop 9 v = k → lv_has ls 3 [(2, .int (Int32.ofInt ((v : Nat) : Int))), (1, .int (Int32.ofInt ((n : Nat) : Int))), (0, .int a0)] →
    (∀ ls' : Array Slot, lv_has ls' 3 [(0, .int a0)] → W p l e R s m args below meth c H locs cells slots Q (F0 m 21 ls' [.int (Int32.ofInt ((n + k : Nat) : Int))])) → W p l e R s m args below meth c H locs cells slots Q (F0 m 4 ls []) := by
  intro k
  induction k with
  | zero =>
    intro v n ls hv hk hl kk
    have h0 := (nh_pos v hv).2.2 hk
    subst h0
    refine lv_iload_n hx hb (show decode prog_14_method_10_code 4 = .ok (.iload_n 2, 1) by decide +kernel) rfl (lv_at hl 0 rfl) ?_
    refine lv_if_eq (tgt := 20) hx hb (show decode prog_14_method_10_code 5 = .ok (.ifCond .eq 15, 3) by decide +kernel) (by decide) (fun h => ?_) (fun h => absurd (by decide) h)
    refine lv_iload_n hx hb (show decode prog_14_method_10_code 20 = .ok (.iload_n 1, 1) by decide +kernel) rfl (lv_at hl 1 rfl) ?_
    exact kk ls (lv_sub hl [2] rfl)
  | succ k ih =>
    intro v n ls hv hk hl kk
    have hne : v ≠ 0 := by
      intro q
      subst q
      have : nn_pop 9 0 = 0 := by decide
      omega
    obtain ⟨g1, g2, g3, g4⟩ := nh_low v hv hne
    refine lv_iload_n hx hb (show decode prog_14_method_10_code 4 = .ok (.iload_n 2, 1) by decide +kernel) rfl (lv_at hl 0 rfl) ?_
    refine lv_if_eq (tgt := 20) hx hb (show decode prog_14_method_10_code 5 = .ok (.ifCond .eq 15, 3) by decide +kernel) (by decide) (fun h => absurd h g1) (fun h => ?_)
    refine lv_iinc (v := Int32.ofInt ((n + 1 : Nat) : Int)) (lv' := [(1, .int (Int32.ofInt ((n + 1 : Nat) : Int))), (2, .int (Int32.ofInt ((v : Nat) : Int))), (0, .int a0)]) hx hb (show decode prog_14_method_10_code 8 = .ok (.iinc 1 1, 3) by decide +kernel) hl (k := 1) rfl (by rw [← Int32.ofInt_add]; congr 1) (by decide) rfl (fun ls hl => ?_)
    refine lv_iload_n hx hb (show decode prog_14_method_10_code 11 = .ok (.iload_n 2, 1) by decide +kernel) rfl (lv_at hl 1 rfl) ?_
    refine lv_iload_n hx hb (show decode prog_14_method_10_code 12 = .ok (.iload_n 2, 1) by decide +kernel) rfl (lv_at hl 1 rfl) ?_
    refine lv_iconst (v := 1) hx hb (show decode prog_14_method_10_code 13 = .ok (.iconst 1, 1) by decide +kernel) (by decide) ?_
    refine lv_isub hx hb (show decode prog_14_method_10_code 14 = .ok (.isub, 1) by decide +kernel) ?_
    refine lv_iand hx hb (show decode prog_14_method_10_code 15 = .ok (.iand, 1) by decide +kernel) ?_
    rw [g2]
    refine lv_istore_n (lv' := [(2, .int (Int32.ofInt ((v &&& (v - 1) : Nat) : Int))), (1, .int (Int32.ofInt ((n + 1 : Nat) : Int))), (0, .int a0)]) hx hb (show decode prog_14_method_10_code 16 = .ok (.istore_n 2, 1) by decide +kernel) rfl hl (by decide) rfl (fun ls hl => ?_)
    refine lv_goto (tgt := 4) hx hb (show decode prog_14_method_10_code 17 = .ok (.goto (-13), 3) by decide +kernel) (by decide) ?_
    refine ih (v &&& (v - 1)) (n + 1) ls g3 (by omega) hl (fun ls' hl' => ?_)
    have := kk ls' hl'
    rw [show n + (k + 1) = n + 1 + k by omega] at this
    exact this
end
theorem nh_addD {T : ab_RG} {C : ab_CT} {σ0 σ : ab_SG} {B : ab_BD} {F : ab_FT} {Dl : ab_DL} {M : ab_ML} {ρ : Nat → Int} (h : ab_K T C σ0 B F Dl M ρ σ) (E : ab_DL) (hd : ∀ d ∈ E, d.2.1 < B.length ∧ ab_kn B.length d.1.2 ∧ σ d.1.1 (ab_kv ρ d.1.2) = ρ d.2.1 + d.2.2) : ab_K T C σ0 B F E M ρ σ := by
  obtain ⟨k1, k2, k3, k4, k5, k6, k7, k8⟩ := h
  exact ⟨k1, k2, k3, k4, hd, k6, k7, k8⟩
theorem nh_addF {T : ab_RG} {C : ab_CT} {σ0 σ : ab_SG} {B : ab_BD} {F : ab_FT} {Dl : ab_DL} {M : ab_ML} {ρ : Nat → Int} (h : ab_K T C σ0 B F Dl M ρ σ) (G : ab_FT) (hd : ab_okF B.length G ρ) : ab_K T C σ0 B G Dl M ρ σ := by
  obtain ⟨k1, k2, k3, k4, k5, k6, k7, k8⟩ := h
  exact ⟨k1, hd, k3, k4, k5, k6, k7, k8⟩
theorem nh_nil {α : Type} {P : α → Prop} : ∀ q ∈ ([] : List α), P q := fun _ h => absurd h List.not_mem_nil
theorem nh_L0 {ad wr cr : Nat → Nat} {n nL : Nat} {ρ : Nat → Int} {ls : Array Slot} {l : List (Nat × Value)} (h : lv_has ls nL l) : ab_okL ad wr cr n nL ρ [] ls := ⟨⟨h.1, h.2.1, fun q hq => absurd hq List.not_mem_nil⟩, nh_nil⟩
set_option maxHeartbeats 4000000 in
theorem gt_bits1 (l : Launch) (cy : Nat → ClassId) (ad wr cr : Nat → Nat) (D : va_G) (hinj : nn_inj ad) : nn_H l cy ad wr cr D (274, 0, gd_bits1) := by
  refine nn_holdW (mr := (⟨"NameNotesModel", "bits", "(I)I"⟩, prog_14_method_10_code, 3, some .int, 1, false, 0)) (dt := nn_dt274) (own := "NameNotesModel") (KI := []) (KJ := []) (PF := []) (PS := []) (PM := []) (KS := []) hinj rfl rfl (by decide +kernel) nh_nil nh_nil nh_nil nh_nil nh_nil nh_nil ?_
  intro p e s m below meth c R Q ρ σ hE hK hsy hP hRT
  obtain ⟨hx, hb, -⟩ := hE
  replace hb : c.code = prog_14_method_10_code := hb
  have hb1 : (1 : Int) ≤ ρ 1 ∧ ρ 1 ≤ 511 := hK.1 1 (by decide)
  obtain ⟨v, hv⟩ : ∃ v : Nat, ρ 1 = (v : Int) := ⟨(ρ 1).toNat, by omega⟩
  have hv5 : v < 512 := by omega
  have hl := lv_entry ([.int (Int32.ofInt (ρ 1 + 0))]) (n := 3) (Nat.le_of_ble_eq_true rfl)
  show W p l e R s m ([Value.int (Int32.ofInt (ρ 1 + 0))] : List Value).toArray below meth c s.heap [] 0 0 Q (entryFrame m ([Value.int (Int32.ofInt (ρ 1 + 0))] : List Value).toArray 3)
  rw [lg_entry_eq]
  generalize (lg_sl ([.int (Int32.ofInt (ρ 1 + 0))]) ++ List.replicate (3 - (lg_sl ([.int (Int32.ofInt (ρ 1 + 0))])).length) Slot.unset).toArray = ls at hl ⊢
  have hl : lv_has ls 3 [(0, .int (Int32.ofInt (ρ 1 + 0)))] := hl
  have e1 : Int32.ofInt (ρ 1 + 0) = Int32.ofInt ((v : Nat) : Int) := by rw [Int.add_zero, hv]
  rw [e1] at hl
  refine lv_iconst (v := 0) hx hb (show decode prog_14_method_10_code 0 = .ok (.iconst 0, 1) by decide +kernel) (by decide) ?_
  refine lv_istore_n (lv' := [(1, .int (Int32.ofInt ((0 : Nat) : Int))), (0, .int (Int32.ofInt ((v : Nat) : Int)))]) hx hb (show decode prog_14_method_10_code 1 = .ok (.istore_n 1, 1) by decide +kernel) rfl hl (by decide) rfl (fun ls hl => ?_)
  refine lv_iload_n hx hb (show decode prog_14_method_10_code 2 = .ok (.iload_n 0, 1) by decide +kernel) rfl (lv_at hl 1 rfl) ?_
  refine lv_istore_n (lv' := [(2, .int (Int32.ofInt ((v : Nat) : Int))), (1, .int (Int32.ofInt ((0 : Nat) : Int))), (0, .int (Int32.ofInt ((v : Nat) : Int)))]) hx hb (show decode prog_14_method_10_code 3 = .ok (.istore_n 2, 1) by decide +kernel) rfl hl (by decide) rfl (fun ls hl => ?_)
  refine nh_bits_run hx hb (nn_pop 9 v) v 0 ls hv5 rfl hl (fun ls' hl' => ?_)
  obtain ⟨q1, q2, -⟩ := nh_pos v hv5
  have hK2 := ab_K_fresh hK (v := ((nn_pop 9 v : Nat) : Int)) (l := 1) (u := 9) (by first | omega | (have := q2 (by omega); omega)) (by omega) [] nh_nil
  have hK3 := nh_addD hK2 [((131, 2001000), (2, 0))] (fun d hd => by
    rw [List.mem_singleton.mp hd]
    refine ⟨by decide, Or.inr (by decide), ?_⟩
    show σ 131 (ab_kv _ 2001000) = ((nn_pop 9 v : Nat) : Int) + 0
    rw [nh_kv, Int.add_zero]
    show σ 131 (ρ 1).toNat = _
    rw [hv, Int.toNat_natCast]
    exact nh_tab9 hK.2.2.2.2.2.1 hv5)
  exact hRT 21 ([], [(0, 2, 0)], [(0, 0), (1, 511), (1, 9)], [], [((131, 2001000), (2, 0))], []) _ σ s.heap [] ls' _ .ireturn 1 (show decode prog_14_method_10_code 21 = .ok (.ireturn, 1) by decide +kernel) (by decide +kernel)
    ⟨hK3, fun i hi => by
      have hi : i < 2 := hi
      exact if_neg (show ¬ i = 2 by omega), by decide, nh_L0 hl', ⟨by
      show [Value.int (Int32.ofInt ((0 + nn_pop 9 v : Nat) : Int))] = [Value.int (Int32.ofInt (((nn_pop 9 v : Nat) : Int) + 0))]
      rw [Int.add_zero, Nat.zero_add], fun a ha => by rw [List.mem_singleton.mp ha]; exact (by decide : 2 < 3)⟩, hP, va_S.rf⟩
set_option maxHeartbeats 4000000 in
theorem gt_bits0 (l : Launch) (cy : Nat → ClassId) (ad wr cr : Nat → Nat) (D : va_G) (hinj : nn_inj ad) : nn_H l cy ad wr cr D (274, 0, gd_bits0) := by
  refine nn_holdW (mr := (⟨"NameNotesModel", "bits", "(I)I"⟩, prog_14_method_10_code, 3, some .int, 1, false, 0)) (dt := nn_dt274) (own := "NameNotesModel") (KI := []) (KJ := []) (PF := []) (PS := []) (PM := []) (KS := []) hinj rfl rfl (by decide +kernel) nh_nil nh_nil nh_nil nh_nil nh_nil nh_nil ?_
  intro p e s m below meth c R Q ρ σ hE hK hsy hP hRT
  obtain ⟨hx, hb, -⟩ := hE
  replace hb : c.code = prog_14_method_10_code := hb
  have hb1 : (0 : Int) ≤ ρ 1 ∧ ρ 1 ≤ 511 := hK.1 1 (by decide)
  obtain ⟨v, hv⟩ : ∃ v : Nat, ρ 1 = (v : Int) := ⟨(ρ 1).toNat, by omega⟩
  have hv5 : v < 512 := by omega
  have hl := lv_entry ([.int (Int32.ofInt (ρ 1 + 0))]) (n := 3) (Nat.le_of_ble_eq_true rfl)
  show W p l e R s m ([Value.int (Int32.ofInt (ρ 1 + 0))] : List Value).toArray below meth c s.heap [] 0 0 Q (entryFrame m ([Value.int (Int32.ofInt (ρ 1 + 0))] : List Value).toArray 3)
  rw [lg_entry_eq]
  generalize (lg_sl ([.int (Int32.ofInt (ρ 1 + 0))]) ++ List.replicate (3 - (lg_sl ([.int (Int32.ofInt (ρ 1 + 0))])).length) Slot.unset).toArray = ls at hl ⊢
  have hl : lv_has ls 3 [(0, .int (Int32.ofInt (ρ 1 + 0)))] := hl
  have e1 : Int32.ofInt (ρ 1 + 0) = Int32.ofInt ((v : Nat) : Int) := by rw [Int.add_zero, hv]
  rw [e1] at hl
  refine lv_iconst (v := 0) hx hb (show decode prog_14_method_10_code 0 = .ok (.iconst 0, 1) by decide +kernel) (by decide) ?_
  refine lv_istore_n (lv' := [(1, .int (Int32.ofInt ((0 : Nat) : Int))), (0, .int (Int32.ofInt ((v : Nat) : Int)))]) hx hb (show decode prog_14_method_10_code 1 = .ok (.istore_n 1, 1) by decide +kernel) rfl hl (by decide) rfl (fun ls hl => ?_)
  refine lv_iload_n hx hb (show decode prog_14_method_10_code 2 = .ok (.iload_n 0, 1) by decide +kernel) rfl (lv_at hl 1 rfl) ?_
  refine lv_istore_n (lv' := [(2, .int (Int32.ofInt ((v : Nat) : Int))), (1, .int (Int32.ofInt ((0 : Nat) : Int))), (0, .int (Int32.ofInt ((v : Nat) : Int)))]) hx hb (show decode prog_14_method_10_code 3 = .ok (.istore_n 2, 1) by decide +kernel) rfl hl (by decide) rfl (fun ls hl => ?_)
  refine nh_bits_run hx hb (nn_pop 9 v) v 0 ls hv5 rfl hl (fun ls' hl' => ?_)
  obtain ⟨q1, q2, -⟩ := nh_pos v hv5
  have hK2 := ab_K_fresh hK (v := ((nn_pop 9 v : Nat) : Int)) (l := 0) (u := 9) (by first | omega | (have := q2 (by omega); omega)) (by omega) [] nh_nil
  have hK3 := nh_addD hK2 [((131, 2001000), (2, 0))] (fun d hd => by
    rw [List.mem_singleton.mp hd]
    refine ⟨by decide, Or.inr (by decide), ?_⟩
    show σ 131 (ab_kv _ 2001000) = ((nn_pop 9 v : Nat) : Int) + 0
    rw [nh_kv, Int.add_zero]
    show σ 131 (ρ 1).toNat = _
    rw [hv, Int.toNat_natCast]
    exact nh_tab9 hK.2.2.2.2.2.1 hv5)
  exact hRT 21 ([], [(0, 2, 0)], [(0, 0), (0, 511), (0, 9)], [], [((131, 2001000), (2, 0))], []) _ σ s.heap [] ls' _ .ireturn 1 (show decode prog_14_method_10_code 21 = .ok (.ireturn, 1) by decide +kernel) (by decide +kernel)
    ⟨hK3, fun i hi => by
      have hi : i < 2 := hi
      exact if_neg (show ¬ i = 2 by omega), by decide, nh_L0 hl', ⟨by
      show [Value.int (Int32.ofInt ((0 + nn_pop 9 v : Nat) : Int))] = [Value.int (Int32.ofInt (((nn_pop 9 v : Nat) : Int) + 0))]
      rw [Int.add_zero, Nat.zero_add], fun a ha => by rw [List.mem_singleton.mp ha]; exact (by decide : 2 < 3)⟩, hP, va_S.rf⟩
set_option maxHeartbeats 4000000 in
theorem gt_has0 (l : Launch) (cy : Nat → ClassId) (ad wr cr : Nat → Nat) (D : va_G) (hinj : nn_inj ad) : nn_H l cy ad wr cr D (230, 0, gd_has0) := by
  refine nn_holdW (mr := (⟨"NameNotesModel", "has", "(II)Z"⟩, prog_14_method_9_code, 2, some .boolean, 2, false, 1)) (dt := nn_dt230) (own := "NameNotesModel") (KI := []) (KJ := []) (PF := []) (PS := []) (PM := []) (KS := []) hinj rfl rfl (by decide +kernel) nh_nil nh_nil nh_nil nh_nil nh_nil nh_nil ?_
  intro p e s m below meth c R Q ρ σ hE hK hsy hP hRT
  obtain ⟨hx, hb, -⟩ := hE
  replace hb : c.code = prog_14_method_9_code := hb
  have h0 : ρ 0 = 0 := hK.2.2.1
  have hb1 : (0 : Int) ≤ ρ 1 ∧ ρ 1 ≤ 511 := hK.1 1 (by decide)
  obtain ⟨v, hv⟩ : ∃ v : Nat, ρ 1 = (v : Int) := ⟨(ρ 1).toNat, by omega⟩
  have hv5 : v < 512 := by omega
  have hl := lv_entry ([Value.int (Int32.ofInt (ρ 1 + 0)), Value.int (Int32.ofInt (ρ 0 + 0))]) (n := 2) (Nat.le_of_ble_eq_true rfl)
  show W p l e R s m ([Value.int (Int32.ofInt (ρ 1 + 0)), Value.int (Int32.ofInt (ρ 0 + 0))] : List Value).toArray below meth c s.heap [] 0 0 Q (entryFrame m ([Value.int (Int32.ofInt (ρ 1 + 0)), Value.int (Int32.ofInt (ρ 0 + 0))] : List Value).toArray 2)
  rw [lg_entry_eq]
  generalize (lg_sl ([Value.int (Int32.ofInt (ρ 1 + 0)), Value.int (Int32.ofInt (ρ 0 + 0))]) ++ List.replicate (2 - (lg_sl ([Value.int (Int32.ofInt (ρ 1 + 0)), Value.int (Int32.ofInt (ρ 0 + 0))])).length) Slot.unset).toArray = ls at hl ⊢
  have hl : lv_has ls 2 [(0, .int (Int32.ofInt (ρ 1 + 0))), (1, .int (Int32.ofInt (ρ 0 + 0)))] := hl
  have e1 : Int32.ofInt (ρ 1 + 0) = Int32.ofInt ((v : Nat) : Int) := by rw [Int.add_zero, hv]
  have e2 : Int32.ofInt (ρ 0 + 0) = Int32.ofInt ((0 : Nat) : Int) := by rw [h0]; rfl
  rw [e1, e2] at hl
  refine nh_has_run hx hb hl (fun h => ?_) (fun h => ?_)
  ·
    have hbit : v / 2 ^ 0 % 2 = 1 := by exact (nh_bit 0 (by decide) v hv5).mp h
    have p9 : nn_pop 1 v = nn_pop 0 v + v / 2 ^ 0 % 2 := rfl
    have hK3 := nh_addD hK [((132, 2001000), (0, 1))] (fun d hd => by
      rw [List.mem_singleton.mp hd]
      refine ⟨by decide, Or.inr (by decide), ?_⟩
      show σ 132 (ab_kv ρ 2001000) = ρ 0 + 1
      rw [nh_kv, hv, Int.toNat_natCast, nh_tabx (x := 1) hK.2.2.2.2.2.1 (by decide) (by decide) hv5]
      have p0 : nn_pop 0 v = 0 := rfl
      omega)
    exact hRT 14 ([], [(0, 0, 1)], [(0, 0), (0, 511)], [], [((132, 2001000), (0, 1))], []) _ σ s.heap [] ls _ .ireturn 1 (show decode prog_14_method_9_code 14 = .ok (.ireturn, 1) by decide +kernel) (by decide +kernel)
      ⟨hK3, fun i hi => rfl, by decide, nh_L0 hl, ⟨by
        show [Value.int 1] = [Value.int (Int32.ofInt (ρ 0 + 1))]
        rw [h0]; rfl, fun a ha => by rw [List.mem_singleton.mp ha]; exact (by decide : 0 < 2)⟩, hP, va_S.rf⟩
  ·
    have hbit : v / 2 ^ 0 % 2 = 0 := by exact (Nat.mod_two_eq_zero_or_one (v / 2 ^ 0)).resolve_right (fun q => h ((nh_bit 0 (by decide) v hv5).mpr q))
    have p9 : nn_pop 1 v = nn_pop 0 v + v / 2 ^ 0 % 2 := rfl
    have hK3 := nh_addD hK [((132, 2001000), (0, 0))] (fun d hd => by
      rw [List.mem_singleton.mp hd]
      refine ⟨by decide, Or.inr (by decide), ?_⟩
      show σ 132 (ab_kv ρ 2001000) = ρ 0 + 0
      rw [nh_kv, hv, Int.toNat_natCast, nh_tabx (x := 1) hK.2.2.2.2.2.1 (by decide) (by decide) hv5]
      have p0 : nn_pop 0 v = 0 := rfl
      omega)
    exact hRT 14 ([], [(0, 0, 0)], [(0, 0), (0, 511)], [], [((132, 2001000), (0, 0))], []) _ σ s.heap [] ls _ .ireturn 1 (show decode prog_14_method_9_code 14 = .ok (.ireturn, 1) by decide +kernel) (by decide +kernel)
      ⟨hK3, fun i hi => rfl, by decide, nh_L0 hl, ⟨by
        show [Value.int 0] = [Value.int (Int32.ofInt (ρ 0 + 0))]
        rw [h0]; rfl, fun a ha => by rw [List.mem_singleton.mp ha]; exact (by decide : 0 < 2)⟩, hP, va_S.rf⟩
set_option maxHeartbeats 4000000 in
theorem gt_has1 (l : Launch) (cy : Nat → ClassId) (ad wr cr : Nat → Nat) (D : va_G) (hinj : nn_inj ad) : nn_H l cy ad wr cr D (230, 0, gd_has1) := by
  refine nn_holdW (mr := (⟨"NameNotesModel", "has", "(II)Z"⟩, prog_14_method_9_code, 2, some .boolean, 2, false, 1)) (dt := nn_dt230) (own := "NameNotesModel") (KI := []) (KJ := []) (PF := []) (PS := []) (PM := []) (KS := []) hinj rfl rfl (by decide +kernel) nh_nil nh_nil nh_nil nh_nil nh_nil nh_nil ?_
  intro p e s m below meth c R Q ρ σ hE hK hsy hP hRT
  obtain ⟨hx, hb, -⟩ := hE
  replace hb : c.code = prog_14_method_9_code := hb
  have h0 : ρ 0 = 0 := hK.2.2.1
  have hb1 : (0 : Int) ≤ ρ 1 ∧ ρ 1 ≤ 511 := hK.1 1 (by decide)
  obtain ⟨v, hv⟩ : ∃ v : Nat, ρ 1 = (v : Int) := ⟨(ρ 1).toNat, by omega⟩
  have hv5 : v < 512 := by omega
  have hd1 : σ 132 (ab_kv ρ 2001000) = ρ 2 + 0 := (hK.2.2.2.2.1 _ List.mem_cons_self).2.2
  rw [nh_kv, hv, Int.toNat_natCast, nh_tabx (x := 1) hK.2.2.2.2.2.1 (by decide) (by decide) hv5] at hd1
  have hl := lv_entry ([Value.int (Int32.ofInt (ρ 1 + 0)), Value.int (Int32.ofInt (ρ 0 + 1))]) (n := 2) (Nat.le_of_ble_eq_true rfl)
  show W p l e R s m ([Value.int (Int32.ofInt (ρ 1 + 0)), Value.int (Int32.ofInt (ρ 0 + 1))] : List Value).toArray below meth c s.heap [] 0 0 Q (entryFrame m ([Value.int (Int32.ofInt (ρ 1 + 0)), Value.int (Int32.ofInt (ρ 0 + 1))] : List Value).toArray 2)
  rw [lg_entry_eq]
  generalize (lg_sl ([Value.int (Int32.ofInt (ρ 1 + 0)), Value.int (Int32.ofInt (ρ 0 + 1))]) ++ List.replicate (2 - (lg_sl ([Value.int (Int32.ofInt (ρ 1 + 0)), Value.int (Int32.ofInt (ρ 0 + 1))])).length) Slot.unset).toArray = ls at hl ⊢
  have hl : lv_has ls 2 [(0, .int (Int32.ofInt (ρ 1 + 0))), (1, .int (Int32.ofInt (ρ 0 + 1)))] := hl
  have e1 : Int32.ofInt (ρ 1 + 0) = Int32.ofInt ((v : Nat) : Int) := by rw [Int.add_zero, hv]
  have e2 : Int32.ofInt (ρ 0 + 1) = Int32.ofInt ((1 : Nat) : Int) := by rw [h0]; rfl
  rw [e1, e2] at hl
  refine nh_has_run hx hb hl (fun h => ?_) (fun h => ?_)
  ·
    have hbit : v / 2 ^ 1 % 2 = 1 := by exact (nh_bit 1 (by decide) v hv5).mp h
    have p9 : nn_pop 2 v = nn_pop 1 v + v / 2 ^ 1 % 2 := rfl
    have hK3 := nh_addD hK [((133, 2001000), (2, 1))] (fun d hd => by
      rw [List.mem_singleton.mp hd]
      refine ⟨by decide, Or.inr (by decide), ?_⟩
      show σ 133 (ab_kv ρ 2001000) = ρ 2 + 1
      rw [nh_kv, hv, Int.toNat_natCast, nh_tabx (x := 2) hK.2.2.2.2.2.1 (by decide) (by decide) hv5]
      omega)
    exact hRT 14 ([], [(0, 0, 1)], [(0, 0), (0, 511), (0, 9)], [], [((133, 2001000), (2, 1))], []) _ σ s.heap [] ls _ .ireturn 1 (show decode prog_14_method_9_code 14 = .ok (.ireturn, 1) by decide +kernel) (by decide +kernel)
      ⟨hK3, fun i hi => rfl, by decide, nh_L0 hl, ⟨by
        show [Value.int 1] = [Value.int (Int32.ofInt (ρ 0 + 1))]
        rw [h0]; rfl, fun a ha => by rw [List.mem_singleton.mp ha]; exact (by decide : 0 < 3)⟩, hP, va_S.rf⟩
  ·
    have hbit : v / 2 ^ 1 % 2 = 0 := by exact (Nat.mod_two_eq_zero_or_one (v / 2 ^ 1)).resolve_right (fun q => h ((nh_bit 1 (by decide) v hv5).mpr q))
    have p9 : nn_pop 2 v = nn_pop 1 v + v / 2 ^ 1 % 2 := rfl
    have hK3 := nh_addD hK [((133, 2001000), (2, 0))] (fun d hd => by
      rw [List.mem_singleton.mp hd]
      refine ⟨by decide, Or.inr (by decide), ?_⟩
      show σ 133 (ab_kv ρ 2001000) = ρ 2 + 0
      rw [nh_kv, hv, Int.toNat_natCast, nh_tabx (x := 2) hK.2.2.2.2.2.1 (by decide) (by decide) hv5]
      omega)
    exact hRT 14 ([], [(0, 0, 0)], [(0, 0), (0, 511), (0, 9)], [], [((133, 2001000), (2, 0))], []) _ σ s.heap [] ls _ .ireturn 1 (show decode prog_14_method_9_code 14 = .ok (.ireturn, 1) by decide +kernel) (by decide +kernel)
      ⟨hK3, fun i hi => rfl, by decide, nh_L0 hl, ⟨by
        show [Value.int 0] = [Value.int (Int32.ofInt (ρ 0 + 0))]
        rw [h0]; rfl, fun a ha => by rw [List.mem_singleton.mp ha]; exact (by decide : 0 < 3)⟩, hP, va_S.rf⟩
set_option maxHeartbeats 4000000 in
theorem gt_has2 (l : Launch) (cy : Nat → ClassId) (ad wr cr : Nat → Nat) (D : va_G) (hinj : nn_inj ad) : nn_H l cy ad wr cr D (230, 0, gd_has2) := by
  refine nn_holdW (mr := (⟨"NameNotesModel", "has", "(II)Z"⟩, prog_14_method_9_code, 2, some .boolean, 2, false, 1)) (dt := nn_dt230) (own := "NameNotesModel") (KI := []) (KJ := []) (PF := []) (PS := []) (PM := []) (KS := []) hinj rfl rfl (by decide +kernel) nh_nil nh_nil nh_nil nh_nil nh_nil nh_nil ?_
  intro p e s m below meth c R Q ρ σ hE hK hsy hP hRT
  obtain ⟨hx, hb, -⟩ := hE
  replace hb : c.code = prog_14_method_9_code := hb
  have h0 : ρ 0 = 0 := hK.2.2.1
  have hb1 : (0 : Int) ≤ ρ 1 ∧ ρ 1 ≤ 511 := hK.1 1 (by decide)
  obtain ⟨v, hv⟩ : ∃ v : Nat, ρ 1 = (v : Int) := ⟨(ρ 1).toNat, by omega⟩
  have hv5 : v < 512 := by omega
  have hd1 : σ 133 (ab_kv ρ 2001000) = ρ 2 + 0 := (hK.2.2.2.2.1 _ List.mem_cons_self).2.2
  rw [nh_kv, hv, Int.toNat_natCast, nh_tabx (x := 2) hK.2.2.2.2.2.1 (by decide) (by decide) hv5] at hd1
  have hl := lv_entry ([Value.int (Int32.ofInt (ρ 1 + 0)), Value.int (Int32.ofInt (ρ 0 + 2))]) (n := 2) (Nat.le_of_ble_eq_true rfl)
  show W p l e R s m ([Value.int (Int32.ofInt (ρ 1 + 0)), Value.int (Int32.ofInt (ρ 0 + 2))] : List Value).toArray below meth c s.heap [] 0 0 Q (entryFrame m ([Value.int (Int32.ofInt (ρ 1 + 0)), Value.int (Int32.ofInt (ρ 0 + 2))] : List Value).toArray 2)
  rw [lg_entry_eq]
  generalize (lg_sl ([Value.int (Int32.ofInt (ρ 1 + 0)), Value.int (Int32.ofInt (ρ 0 + 2))]) ++ List.replicate (2 - (lg_sl ([Value.int (Int32.ofInt (ρ 1 + 0)), Value.int (Int32.ofInt (ρ 0 + 2))])).length) Slot.unset).toArray = ls at hl ⊢
  have hl : lv_has ls 2 [(0, .int (Int32.ofInt (ρ 1 + 0))), (1, .int (Int32.ofInt (ρ 0 + 2)))] := hl
  have e1 : Int32.ofInt (ρ 1 + 0) = Int32.ofInt ((v : Nat) : Int) := by rw [Int.add_zero, hv]
  have e2 : Int32.ofInt (ρ 0 + 2) = Int32.ofInt ((2 : Nat) : Int) := by rw [h0]; rfl
  rw [e1, e2] at hl
  refine nh_has_run hx hb hl (fun h => ?_) (fun h => ?_)
  ·
    have hbit : v / 2 ^ 2 % 2 = 1 := by exact (nh_bit 2 (by decide) v hv5).mp h
    have p9 : nn_pop 3 v = nn_pop 2 v + v / 2 ^ 2 % 2 := rfl
    have hK3 := nh_addD hK [((134, 2001000), (2, 1))] (fun d hd => by
      rw [List.mem_singleton.mp hd]
      refine ⟨by decide, Or.inr (by decide), ?_⟩
      show σ 134 (ab_kv ρ 2001000) = ρ 2 + 1
      rw [nh_kv, hv, Int.toNat_natCast, nh_tabx (x := 3) hK.2.2.2.2.2.1 (by decide) (by decide) hv5]
      omega)
    exact hRT 14 ([], [(0, 0, 1)], [(0, 0), (0, 511), (0, 9)], [], [((134, 2001000), (2, 1))], []) _ σ s.heap [] ls _ .ireturn 1 (show decode prog_14_method_9_code 14 = .ok (.ireturn, 1) by decide +kernel) (by decide +kernel)
      ⟨hK3, fun i hi => rfl, by decide, nh_L0 hl, ⟨by
        show [Value.int 1] = [Value.int (Int32.ofInt (ρ 0 + 1))]
        rw [h0]; rfl, fun a ha => by rw [List.mem_singleton.mp ha]; exact (by decide : 0 < 3)⟩, hP, va_S.rf⟩
  ·
    have hbit : v / 2 ^ 2 % 2 = 0 := by exact (Nat.mod_two_eq_zero_or_one (v / 2 ^ 2)).resolve_right (fun q => h ((nh_bit 2 (by decide) v hv5).mpr q))
    have p9 : nn_pop 3 v = nn_pop 2 v + v / 2 ^ 2 % 2 := rfl
    have hK3 := nh_addD hK [((134, 2001000), (2, 0))] (fun d hd => by
      rw [List.mem_singleton.mp hd]
      refine ⟨by decide, Or.inr (by decide), ?_⟩
      show σ 134 (ab_kv ρ 2001000) = ρ 2 + 0
      rw [nh_kv, hv, Int.toNat_natCast, nh_tabx (x := 3) hK.2.2.2.2.2.1 (by decide) (by decide) hv5]
      omega)
    exact hRT 14 ([], [(0, 0, 0)], [(0, 0), (0, 511), (0, 9)], [], [((134, 2001000), (2, 0))], []) _ σ s.heap [] ls _ .ireturn 1 (show decode prog_14_method_9_code 14 = .ok (.ireturn, 1) by decide +kernel) (by decide +kernel)
      ⟨hK3, fun i hi => rfl, by decide, nh_L0 hl, ⟨by
        show [Value.int 0] = [Value.int (Int32.ofInt (ρ 0 + 0))]
        rw [h0]; rfl, fun a ha => by rw [List.mem_singleton.mp ha]; exact (by decide : 0 < 3)⟩, hP, va_S.rf⟩
set_option maxHeartbeats 4000000 in
theorem gt_has3 (l : Launch) (cy : Nat → ClassId) (ad wr cr : Nat → Nat) (D : va_G) (hinj : nn_inj ad) : nn_H l cy ad wr cr D (230, 0, gd_has3) := by
  refine nn_holdW (mr := (⟨"NameNotesModel", "has", "(II)Z"⟩, prog_14_method_9_code, 2, some .boolean, 2, false, 1)) (dt := nn_dt230) (own := "NameNotesModel") (KI := []) (KJ := []) (PF := []) (PS := []) (PM := []) (KS := []) hinj rfl rfl (by decide +kernel) nh_nil nh_nil nh_nil nh_nil nh_nil nh_nil ?_
  intro p e s m below meth c R Q ρ σ hE hK hsy hP hRT
  obtain ⟨hx, hb, -⟩ := hE
  replace hb : c.code = prog_14_method_9_code := hb
  have h0 : ρ 0 = 0 := hK.2.2.1
  have hb1 : (0 : Int) ≤ ρ 1 ∧ ρ 1 ≤ 511 := hK.1 1 (by decide)
  obtain ⟨v, hv⟩ : ∃ v : Nat, ρ 1 = (v : Int) := ⟨(ρ 1).toNat, by omega⟩
  have hv5 : v < 512 := by omega
  have hd1 : σ 134 (ab_kv ρ 2001000) = ρ 2 + 0 := (hK.2.2.2.2.1 _ List.mem_cons_self).2.2
  rw [nh_kv, hv, Int.toNat_natCast, nh_tabx (x := 3) hK.2.2.2.2.2.1 (by decide) (by decide) hv5] at hd1
  have hl := lv_entry ([Value.int (Int32.ofInt (ρ 1 + 0)), Value.int (Int32.ofInt (ρ 0 + 3))]) (n := 2) (Nat.le_of_ble_eq_true rfl)
  show W p l e R s m ([Value.int (Int32.ofInt (ρ 1 + 0)), Value.int (Int32.ofInt (ρ 0 + 3))] : List Value).toArray below meth c s.heap [] 0 0 Q (entryFrame m ([Value.int (Int32.ofInt (ρ 1 + 0)), Value.int (Int32.ofInt (ρ 0 + 3))] : List Value).toArray 2)
  rw [lg_entry_eq]
  generalize (lg_sl ([Value.int (Int32.ofInt (ρ 1 + 0)), Value.int (Int32.ofInt (ρ 0 + 3))]) ++ List.replicate (2 - (lg_sl ([Value.int (Int32.ofInt (ρ 1 + 0)), Value.int (Int32.ofInt (ρ 0 + 3))])).length) Slot.unset).toArray = ls at hl ⊢
  have hl : lv_has ls 2 [(0, .int (Int32.ofInt (ρ 1 + 0))), (1, .int (Int32.ofInt (ρ 0 + 3)))] := hl
  have e1 : Int32.ofInt (ρ 1 + 0) = Int32.ofInt ((v : Nat) : Int) := by rw [Int.add_zero, hv]
  have e2 : Int32.ofInt (ρ 0 + 3) = Int32.ofInt ((3 : Nat) : Int) := by rw [h0]; rfl
  rw [e1, e2] at hl
  refine nh_has_run hx hb hl (fun h => ?_) (fun h => ?_)
  ·
    have hbit : v / 2 ^ 3 % 2 = 1 := by exact (nh_bit 3 (by decide) v hv5).mp h
    have p9 : nn_pop 4 v = nn_pop 3 v + v / 2 ^ 3 % 2 := rfl
    have hK3 := nh_addD hK [((135, 2001000), (2, 1))] (fun d hd => by
      rw [List.mem_singleton.mp hd]
      refine ⟨by decide, Or.inr (by decide), ?_⟩
      show σ 135 (ab_kv ρ 2001000) = ρ 2 + 1
      rw [nh_kv, hv, Int.toNat_natCast, nh_tabx (x := 4) hK.2.2.2.2.2.1 (by decide) (by decide) hv5]
      omega)
    exact hRT 14 ([], [(0, 0, 1)], [(0, 0), (0, 511), (0, 9)], [], [((135, 2001000), (2, 1))], []) _ σ s.heap [] ls _ .ireturn 1 (show decode prog_14_method_9_code 14 = .ok (.ireturn, 1) by decide +kernel) (by decide +kernel)
      ⟨hK3, fun i hi => rfl, by decide, nh_L0 hl, ⟨by
        show [Value.int 1] = [Value.int (Int32.ofInt (ρ 0 + 1))]
        rw [h0]; rfl, fun a ha => by rw [List.mem_singleton.mp ha]; exact (by decide : 0 < 3)⟩, hP, va_S.rf⟩
  ·
    have hbit : v / 2 ^ 3 % 2 = 0 := by exact (Nat.mod_two_eq_zero_or_one (v / 2 ^ 3)).resolve_right (fun q => h ((nh_bit 3 (by decide) v hv5).mpr q))
    have p9 : nn_pop 4 v = nn_pop 3 v + v / 2 ^ 3 % 2 := rfl
    have hK3 := nh_addD hK [((135, 2001000), (2, 0))] (fun d hd => by
      rw [List.mem_singleton.mp hd]
      refine ⟨by decide, Or.inr (by decide), ?_⟩
      show σ 135 (ab_kv ρ 2001000) = ρ 2 + 0
      rw [nh_kv, hv, Int.toNat_natCast, nh_tabx (x := 4) hK.2.2.2.2.2.1 (by decide) (by decide) hv5]
      omega)
    exact hRT 14 ([], [(0, 0, 0)], [(0, 0), (0, 511), (0, 9)], [], [((135, 2001000), (2, 0))], []) _ σ s.heap [] ls _ .ireturn 1 (show decode prog_14_method_9_code 14 = .ok (.ireturn, 1) by decide +kernel) (by decide +kernel)
      ⟨hK3, fun i hi => rfl, by decide, nh_L0 hl, ⟨by
        show [Value.int 0] = [Value.int (Int32.ofInt (ρ 0 + 0))]
        rw [h0]; rfl, fun a ha => by rw [List.mem_singleton.mp ha]; exact (by decide : 0 < 3)⟩, hP, va_S.rf⟩
set_option maxHeartbeats 4000000 in
theorem gt_has4 (l : Launch) (cy : Nat → ClassId) (ad wr cr : Nat → Nat) (D : va_G) (hinj : nn_inj ad) : nn_H l cy ad wr cr D (230, 0, gd_has4) := by
  refine nn_holdW (mr := (⟨"NameNotesModel", "has", "(II)Z"⟩, prog_14_method_9_code, 2, some .boolean, 2, false, 1)) (dt := nn_dt230) (own := "NameNotesModel") (KI := []) (KJ := []) (PF := []) (PS := []) (PM := []) (KS := []) hinj rfl rfl (by decide +kernel) nh_nil nh_nil nh_nil nh_nil nh_nil nh_nil ?_
  intro p e s m below meth c R Q ρ σ hE hK hsy hP hRT
  obtain ⟨hx, hb, -⟩ := hE
  replace hb : c.code = prog_14_method_9_code := hb
  have h0 : ρ 0 = 0 := hK.2.2.1
  have hb1 : (0 : Int) ≤ ρ 1 ∧ ρ 1 ≤ 511 := hK.1 1 (by decide)
  obtain ⟨v, hv⟩ : ∃ v : Nat, ρ 1 = (v : Int) := ⟨(ρ 1).toNat, by omega⟩
  have hv5 : v < 512 := by omega
  have hd1 : σ 135 (ab_kv ρ 2001000) = ρ 2 + 0 := (hK.2.2.2.2.1 _ List.mem_cons_self).2.2
  rw [nh_kv, hv, Int.toNat_natCast, nh_tabx (x := 4) hK.2.2.2.2.2.1 (by decide) (by decide) hv5] at hd1
  have hl := lv_entry ([Value.int (Int32.ofInt (ρ 1 + 0)), Value.int (Int32.ofInt (ρ 0 + 4))]) (n := 2) (Nat.le_of_ble_eq_true rfl)
  show W p l e R s m ([Value.int (Int32.ofInt (ρ 1 + 0)), Value.int (Int32.ofInt (ρ 0 + 4))] : List Value).toArray below meth c s.heap [] 0 0 Q (entryFrame m ([Value.int (Int32.ofInt (ρ 1 + 0)), Value.int (Int32.ofInt (ρ 0 + 4))] : List Value).toArray 2)
  rw [lg_entry_eq]
  generalize (lg_sl ([Value.int (Int32.ofInt (ρ 1 + 0)), Value.int (Int32.ofInt (ρ 0 + 4))]) ++ List.replicate (2 - (lg_sl ([Value.int (Int32.ofInt (ρ 1 + 0)), Value.int (Int32.ofInt (ρ 0 + 4))])).length) Slot.unset).toArray = ls at hl ⊢
  have hl : lv_has ls 2 [(0, .int (Int32.ofInt (ρ 1 + 0))), (1, .int (Int32.ofInt (ρ 0 + 4)))] := hl
  have e1 : Int32.ofInt (ρ 1 + 0) = Int32.ofInt ((v : Nat) : Int) := by rw [Int.add_zero, hv]
  have e2 : Int32.ofInt (ρ 0 + 4) = Int32.ofInt ((4 : Nat) : Int) := by rw [h0]; rfl
  rw [e1, e2] at hl
  refine nh_has_run hx hb hl (fun h => ?_) (fun h => ?_)
  ·
    have hbit : v / 2 ^ 4 % 2 = 1 := by exact (nh_bit 4 (by decide) v hv5).mp h
    have p9 : nn_pop 5 v = nn_pop 4 v + v / 2 ^ 4 % 2 := rfl
    have hK3 := nh_addD hK [((136, 2001000), (2, 1))] (fun d hd => by
      rw [List.mem_singleton.mp hd]
      refine ⟨by decide, Or.inr (by decide), ?_⟩
      show σ 136 (ab_kv ρ 2001000) = ρ 2 + 1
      rw [nh_kv, hv, Int.toNat_natCast, nh_tabx (x := 5) hK.2.2.2.2.2.1 (by decide) (by decide) hv5]
      omega)
    exact hRT 14 ([], [(0, 0, 1)], [(0, 0), (0, 511), (0, 9)], [], [((136, 2001000), (2, 1))], []) _ σ s.heap [] ls _ .ireturn 1 (show decode prog_14_method_9_code 14 = .ok (.ireturn, 1) by decide +kernel) (by decide +kernel)
      ⟨hK3, fun i hi => rfl, by decide, nh_L0 hl, ⟨by
        show [Value.int 1] = [Value.int (Int32.ofInt (ρ 0 + 1))]
        rw [h0]; rfl, fun a ha => by rw [List.mem_singleton.mp ha]; exact (by decide : 0 < 3)⟩, hP, va_S.rf⟩
  ·
    have hbit : v / 2 ^ 4 % 2 = 0 := by exact (Nat.mod_two_eq_zero_or_one (v / 2 ^ 4)).resolve_right (fun q => h ((nh_bit 4 (by decide) v hv5).mpr q))
    have p9 : nn_pop 5 v = nn_pop 4 v + v / 2 ^ 4 % 2 := rfl
    have hK3 := nh_addD hK [((136, 2001000), (2, 0))] (fun d hd => by
      rw [List.mem_singleton.mp hd]
      refine ⟨by decide, Or.inr (by decide), ?_⟩
      show σ 136 (ab_kv ρ 2001000) = ρ 2 + 0
      rw [nh_kv, hv, Int.toNat_natCast, nh_tabx (x := 5) hK.2.2.2.2.2.1 (by decide) (by decide) hv5]
      omega)
    exact hRT 14 ([], [(0, 0, 0)], [(0, 0), (0, 511), (0, 9)], [], [((136, 2001000), (2, 0))], []) _ σ s.heap [] ls _ .ireturn 1 (show decode prog_14_method_9_code 14 = .ok (.ireturn, 1) by decide +kernel) (by decide +kernel)
      ⟨hK3, fun i hi => rfl, by decide, nh_L0 hl, ⟨by
        show [Value.int 0] = [Value.int (Int32.ofInt (ρ 0 + 0))]
        rw [h0]; rfl, fun a ha => by rw [List.mem_singleton.mp ha]; exact (by decide : 0 < 3)⟩, hP, va_S.rf⟩
set_option maxHeartbeats 4000000 in
theorem gt_has5 (l : Launch) (cy : Nat → ClassId) (ad wr cr : Nat → Nat) (D : va_G) (hinj : nn_inj ad) : nn_H l cy ad wr cr D (230, 0, gd_has5) := by
  refine nn_holdW (mr := (⟨"NameNotesModel", "has", "(II)Z"⟩, prog_14_method_9_code, 2, some .boolean, 2, false, 1)) (dt := nn_dt230) (own := "NameNotesModel") (KI := []) (KJ := []) (PF := []) (PS := []) (PM := []) (KS := []) hinj rfl rfl (by decide +kernel) nh_nil nh_nil nh_nil nh_nil nh_nil nh_nil ?_
  intro p e s m below meth c R Q ρ σ hE hK hsy hP hRT
  obtain ⟨hx, hb, -⟩ := hE
  replace hb : c.code = prog_14_method_9_code := hb
  have h0 : ρ 0 = 0 := hK.2.2.1
  have hb1 : (0 : Int) ≤ ρ 1 ∧ ρ 1 ≤ 511 := hK.1 1 (by decide)
  obtain ⟨v, hv⟩ : ∃ v : Nat, ρ 1 = (v : Int) := ⟨(ρ 1).toNat, by omega⟩
  have hv5 : v < 512 := by omega
  have hd1 : σ 136 (ab_kv ρ 2001000) = ρ 2 + 0 := (hK.2.2.2.2.1 _ List.mem_cons_self).2.2
  rw [nh_kv, hv, Int.toNat_natCast, nh_tabx (x := 5) hK.2.2.2.2.2.1 (by decide) (by decide) hv5] at hd1
  have hl := lv_entry ([Value.int (Int32.ofInt (ρ 1 + 0)), Value.int (Int32.ofInt (ρ 0 + 5))]) (n := 2) (Nat.le_of_ble_eq_true rfl)
  show W p l e R s m ([Value.int (Int32.ofInt (ρ 1 + 0)), Value.int (Int32.ofInt (ρ 0 + 5))] : List Value).toArray below meth c s.heap [] 0 0 Q (entryFrame m ([Value.int (Int32.ofInt (ρ 1 + 0)), Value.int (Int32.ofInt (ρ 0 + 5))] : List Value).toArray 2)
  rw [lg_entry_eq]
  generalize (lg_sl ([Value.int (Int32.ofInt (ρ 1 + 0)), Value.int (Int32.ofInt (ρ 0 + 5))]) ++ List.replicate (2 - (lg_sl ([Value.int (Int32.ofInt (ρ 1 + 0)), Value.int (Int32.ofInt (ρ 0 + 5))])).length) Slot.unset).toArray = ls at hl ⊢
  have hl : lv_has ls 2 [(0, .int (Int32.ofInt (ρ 1 + 0))), (1, .int (Int32.ofInt (ρ 0 + 5)))] := hl
  have e1 : Int32.ofInt (ρ 1 + 0) = Int32.ofInt ((v : Nat) : Int) := by rw [Int.add_zero, hv]
  have e2 : Int32.ofInt (ρ 0 + 5) = Int32.ofInt ((5 : Nat) : Int) := by rw [h0]; rfl
  rw [e1, e2] at hl
  refine nh_has_run hx hb hl (fun h => ?_) (fun h => ?_)
  ·
    have hbit : v / 2 ^ 5 % 2 = 1 := by exact (nh_bit 5 (by decide) v hv5).mp h
    have p9 : nn_pop 6 v = nn_pop 5 v + v / 2 ^ 5 % 2 := rfl
    have hK3 := nh_addD hK [((137, 2001000), (2, 1))] (fun d hd => by
      rw [List.mem_singleton.mp hd]
      refine ⟨by decide, Or.inr (by decide), ?_⟩
      show σ 137 (ab_kv ρ 2001000) = ρ 2 + 1
      rw [nh_kv, hv, Int.toNat_natCast, nh_tabx (x := 6) hK.2.2.2.2.2.1 (by decide) (by decide) hv5]
      omega)
    exact hRT 14 ([], [(0, 0, 1)], [(0, 0), (0, 511), (0, 9)], [], [((137, 2001000), (2, 1))], []) _ σ s.heap [] ls _ .ireturn 1 (show decode prog_14_method_9_code 14 = .ok (.ireturn, 1) by decide +kernel) (by decide +kernel)
      ⟨hK3, fun i hi => rfl, by decide, nh_L0 hl, ⟨by
        show [Value.int 1] = [Value.int (Int32.ofInt (ρ 0 + 1))]
        rw [h0]; rfl, fun a ha => by rw [List.mem_singleton.mp ha]; exact (by decide : 0 < 3)⟩, hP, va_S.rf⟩
  ·
    have hbit : v / 2 ^ 5 % 2 = 0 := by exact (Nat.mod_two_eq_zero_or_one (v / 2 ^ 5)).resolve_right (fun q => h ((nh_bit 5 (by decide) v hv5).mpr q))
    have p9 : nn_pop 6 v = nn_pop 5 v + v / 2 ^ 5 % 2 := rfl
    have hK3 := nh_addD hK [((137, 2001000), (2, 0))] (fun d hd => by
      rw [List.mem_singleton.mp hd]
      refine ⟨by decide, Or.inr (by decide), ?_⟩
      show σ 137 (ab_kv ρ 2001000) = ρ 2 + 0
      rw [nh_kv, hv, Int.toNat_natCast, nh_tabx (x := 6) hK.2.2.2.2.2.1 (by decide) (by decide) hv5]
      omega)
    exact hRT 14 ([], [(0, 0, 0)], [(0, 0), (0, 511), (0, 9)], [], [((137, 2001000), (2, 0))], []) _ σ s.heap [] ls _ .ireturn 1 (show decode prog_14_method_9_code 14 = .ok (.ireturn, 1) by decide +kernel) (by decide +kernel)
      ⟨hK3, fun i hi => rfl, by decide, nh_L0 hl, ⟨by
        show [Value.int 0] = [Value.int (Int32.ofInt (ρ 0 + 0))]
        rw [h0]; rfl, fun a ha => by rw [List.mem_singleton.mp ha]; exact (by decide : 0 < 3)⟩, hP, va_S.rf⟩
set_option maxHeartbeats 4000000 in
theorem gt_has6 (l : Launch) (cy : Nat → ClassId) (ad wr cr : Nat → Nat) (D : va_G) (hinj : nn_inj ad) : nn_H l cy ad wr cr D (230, 0, gd_has6) := by
  refine nn_holdW (mr := (⟨"NameNotesModel", "has", "(II)Z"⟩, prog_14_method_9_code, 2, some .boolean, 2, false, 1)) (dt := nn_dt230) (own := "NameNotesModel") (KI := []) (KJ := []) (PF := []) (PS := []) (PM := []) (KS := []) hinj rfl rfl (by decide +kernel) nh_nil nh_nil nh_nil nh_nil nh_nil nh_nil ?_
  intro p e s m below meth c R Q ρ σ hE hK hsy hP hRT
  obtain ⟨hx, hb, -⟩ := hE
  replace hb : c.code = prog_14_method_9_code := hb
  have h0 : ρ 0 = 0 := hK.2.2.1
  have hb1 : (0 : Int) ≤ ρ 1 ∧ ρ 1 ≤ 511 := hK.1 1 (by decide)
  obtain ⟨v, hv⟩ : ∃ v : Nat, ρ 1 = (v : Int) := ⟨(ρ 1).toNat, by omega⟩
  have hv5 : v < 512 := by omega
  have hd1 : σ 137 (ab_kv ρ 2001000) = ρ 2 + 0 := (hK.2.2.2.2.1 _ List.mem_cons_self).2.2
  rw [nh_kv, hv, Int.toNat_natCast, nh_tabx (x := 6) hK.2.2.2.2.2.1 (by decide) (by decide) hv5] at hd1
  have hl := lv_entry ([Value.int (Int32.ofInt (ρ 1 + 0)), Value.int (Int32.ofInt (ρ 0 + 6))]) (n := 2) (Nat.le_of_ble_eq_true rfl)
  show W p l e R s m ([Value.int (Int32.ofInt (ρ 1 + 0)), Value.int (Int32.ofInt (ρ 0 + 6))] : List Value).toArray below meth c s.heap [] 0 0 Q (entryFrame m ([Value.int (Int32.ofInt (ρ 1 + 0)), Value.int (Int32.ofInt (ρ 0 + 6))] : List Value).toArray 2)
  rw [lg_entry_eq]
  generalize (lg_sl ([Value.int (Int32.ofInt (ρ 1 + 0)), Value.int (Int32.ofInt (ρ 0 + 6))]) ++ List.replicate (2 - (lg_sl ([Value.int (Int32.ofInt (ρ 1 + 0)), Value.int (Int32.ofInt (ρ 0 + 6))])).length) Slot.unset).toArray = ls at hl ⊢
  have hl : lv_has ls 2 [(0, .int (Int32.ofInt (ρ 1 + 0))), (1, .int (Int32.ofInt (ρ 0 + 6)))] := hl
  have e1 : Int32.ofInt (ρ 1 + 0) = Int32.ofInt ((v : Nat) : Int) := by rw [Int.add_zero, hv]
  have e2 : Int32.ofInt (ρ 0 + 6) = Int32.ofInt ((6 : Nat) : Int) := by rw [h0]; rfl
  rw [e1, e2] at hl
  refine nh_has_run hx hb hl (fun h => ?_) (fun h => ?_)
  ·
    have hbit : v / 2 ^ 6 % 2 = 1 := by exact (nh_bit 6 (by decide) v hv5).mp h
    have p9 : nn_pop 7 v = nn_pop 6 v + v / 2 ^ 6 % 2 := rfl
    have hK3 := nh_addD hK [((138, 2001000), (2, 1))] (fun d hd => by
      rw [List.mem_singleton.mp hd]
      refine ⟨by decide, Or.inr (by decide), ?_⟩
      show σ 138 (ab_kv ρ 2001000) = ρ 2 + 1
      rw [nh_kv, hv, Int.toNat_natCast, nh_tabx (x := 7) hK.2.2.2.2.2.1 (by decide) (by decide) hv5]
      omega)
    exact hRT 14 ([], [(0, 0, 1)], [(0, 0), (0, 511), (0, 9)], [], [((138, 2001000), (2, 1))], []) _ σ s.heap [] ls _ .ireturn 1 (show decode prog_14_method_9_code 14 = .ok (.ireturn, 1) by decide +kernel) (by decide +kernel)
      ⟨hK3, fun i hi => rfl, by decide, nh_L0 hl, ⟨by
        show [Value.int 1] = [Value.int (Int32.ofInt (ρ 0 + 1))]
        rw [h0]; rfl, fun a ha => by rw [List.mem_singleton.mp ha]; exact (by decide : 0 < 3)⟩, hP, va_S.rf⟩
  ·
    have hbit : v / 2 ^ 6 % 2 = 0 := by exact (Nat.mod_two_eq_zero_or_one (v / 2 ^ 6)).resolve_right (fun q => h ((nh_bit 6 (by decide) v hv5).mpr q))
    have p9 : nn_pop 7 v = nn_pop 6 v + v / 2 ^ 6 % 2 := rfl
    have hK3 := nh_addD hK [((138, 2001000), (2, 0))] (fun d hd => by
      rw [List.mem_singleton.mp hd]
      refine ⟨by decide, Or.inr (by decide), ?_⟩
      show σ 138 (ab_kv ρ 2001000) = ρ 2 + 0
      rw [nh_kv, hv, Int.toNat_natCast, nh_tabx (x := 7) hK.2.2.2.2.2.1 (by decide) (by decide) hv5]
      omega)
    exact hRT 14 ([], [(0, 0, 0)], [(0, 0), (0, 511), (0, 9)], [], [((138, 2001000), (2, 0))], []) _ σ s.heap [] ls _ .ireturn 1 (show decode prog_14_method_9_code 14 = .ok (.ireturn, 1) by decide +kernel) (by decide +kernel)
      ⟨hK3, fun i hi => rfl, by decide, nh_L0 hl, ⟨by
        show [Value.int 0] = [Value.int (Int32.ofInt (ρ 0 + 0))]
        rw [h0]; rfl, fun a ha => by rw [List.mem_singleton.mp ha]; exact (by decide : 0 < 3)⟩, hP, va_S.rf⟩
set_option maxHeartbeats 4000000 in
theorem gt_has7 (l : Launch) (cy : Nat → ClassId) (ad wr cr : Nat → Nat) (D : va_G) (hinj : nn_inj ad) : nn_H l cy ad wr cr D (230, 0, gd_has7) := by
  refine nn_holdW (mr := (⟨"NameNotesModel", "has", "(II)Z"⟩, prog_14_method_9_code, 2, some .boolean, 2, false, 1)) (dt := nn_dt230) (own := "NameNotesModel") (KI := []) (KJ := []) (PF := []) (PS := []) (PM := []) (KS := []) hinj rfl rfl (by decide +kernel) nh_nil nh_nil nh_nil nh_nil nh_nil nh_nil ?_
  intro p e s m below meth c R Q ρ σ hE hK hsy hP hRT
  obtain ⟨hx, hb, -⟩ := hE
  replace hb : c.code = prog_14_method_9_code := hb
  have h0 : ρ 0 = 0 := hK.2.2.1
  have hb1 : (0 : Int) ≤ ρ 1 ∧ ρ 1 ≤ 511 := hK.1 1 (by decide)
  obtain ⟨v, hv⟩ : ∃ v : Nat, ρ 1 = (v : Int) := ⟨(ρ 1).toNat, by omega⟩
  have hv5 : v < 512 := by omega
  have hd1 : σ 138 (ab_kv ρ 2001000) = ρ 2 + 0 := (hK.2.2.2.2.1 _ List.mem_cons_self).2.2
  rw [nh_kv, hv, Int.toNat_natCast, nh_tabx (x := 7) hK.2.2.2.2.2.1 (by decide) (by decide) hv5] at hd1
  have hl := lv_entry ([Value.int (Int32.ofInt (ρ 1 + 0)), Value.int (Int32.ofInt (ρ 0 + 7))]) (n := 2) (Nat.le_of_ble_eq_true rfl)
  show W p l e R s m ([Value.int (Int32.ofInt (ρ 1 + 0)), Value.int (Int32.ofInt (ρ 0 + 7))] : List Value).toArray below meth c s.heap [] 0 0 Q (entryFrame m ([Value.int (Int32.ofInt (ρ 1 + 0)), Value.int (Int32.ofInt (ρ 0 + 7))] : List Value).toArray 2)
  rw [lg_entry_eq]
  generalize (lg_sl ([Value.int (Int32.ofInt (ρ 1 + 0)), Value.int (Int32.ofInt (ρ 0 + 7))]) ++ List.replicate (2 - (lg_sl ([Value.int (Int32.ofInt (ρ 1 + 0)), Value.int (Int32.ofInt (ρ 0 + 7))])).length) Slot.unset).toArray = ls at hl ⊢
  have hl : lv_has ls 2 [(0, .int (Int32.ofInt (ρ 1 + 0))), (1, .int (Int32.ofInt (ρ 0 + 7)))] := hl
  have e1 : Int32.ofInt (ρ 1 + 0) = Int32.ofInt ((v : Nat) : Int) := by rw [Int.add_zero, hv]
  have e2 : Int32.ofInt (ρ 0 + 7) = Int32.ofInt ((7 : Nat) : Int) := by rw [h0]; rfl
  rw [e1, e2] at hl
  refine nh_has_run hx hb hl (fun h => ?_) (fun h => ?_)
  ·
    have hbit : v / 2 ^ 7 % 2 = 1 := by exact (nh_bit 7 (by decide) v hv5).mp h
    have p9 : nn_pop 8 v = nn_pop 7 v + v / 2 ^ 7 % 2 := rfl
    have hK3 := nh_addD hK [((139, 2001000), (2, 1))] (fun d hd => by
      rw [List.mem_singleton.mp hd]
      refine ⟨by decide, Or.inr (by decide), ?_⟩
      show σ 139 (ab_kv ρ 2001000) = ρ 2 + 1
      rw [nh_kv, hv, Int.toNat_natCast, nh_tabx (x := 8) hK.2.2.2.2.2.1 (by decide) (by decide) hv5]
      omega)
    exact hRT 14 ([], [(0, 0, 1)], [(0, 0), (0, 511), (0, 9)], [], [((139, 2001000), (2, 1))], []) _ σ s.heap [] ls _ .ireturn 1 (show decode prog_14_method_9_code 14 = .ok (.ireturn, 1) by decide +kernel) (by decide +kernel)
      ⟨hK3, fun i hi => rfl, by decide, nh_L0 hl, ⟨by
        show [Value.int 1] = [Value.int (Int32.ofInt (ρ 0 + 1))]
        rw [h0]; rfl, fun a ha => by rw [List.mem_singleton.mp ha]; exact (by decide : 0 < 3)⟩, hP, va_S.rf⟩
  ·
    have hbit : v / 2 ^ 7 % 2 = 0 := by exact (Nat.mod_two_eq_zero_or_one (v / 2 ^ 7)).resolve_right (fun q => h ((nh_bit 7 (by decide) v hv5).mpr q))
    have p9 : nn_pop 8 v = nn_pop 7 v + v / 2 ^ 7 % 2 := rfl
    have hK3 := nh_addD hK [((139, 2001000), (2, 0))] (fun d hd => by
      rw [List.mem_singleton.mp hd]
      refine ⟨by decide, Or.inr (by decide), ?_⟩
      show σ 139 (ab_kv ρ 2001000) = ρ 2 + 0
      rw [nh_kv, hv, Int.toNat_natCast, nh_tabx (x := 8) hK.2.2.2.2.2.1 (by decide) (by decide) hv5]
      omega)
    exact hRT 14 ([], [(0, 0, 0)], [(0, 0), (0, 511), (0, 9)], [], [((139, 2001000), (2, 0))], []) _ σ s.heap [] ls _ .ireturn 1 (show decode prog_14_method_9_code 14 = .ok (.ireturn, 1) by decide +kernel) (by decide +kernel)
      ⟨hK3, fun i hi => rfl, by decide, nh_L0 hl, ⟨by
        show [Value.int 0] = [Value.int (Int32.ofInt (ρ 0 + 0))]
        rw [h0]; rfl, fun a ha => by rw [List.mem_singleton.mp ha]; exact (by decide : 0 < 3)⟩, hP, va_S.rf⟩
set_option maxHeartbeats 4000000 in
theorem gt_has8 (l : Launch) (cy : Nat → ClassId) (ad wr cr : Nat → Nat) (D : va_G) (hinj : nn_inj ad) : nn_H l cy ad wr cr D (230, 0, gd_has8) := by
  refine nn_holdW (mr := (⟨"NameNotesModel", "has", "(II)Z"⟩, prog_14_method_9_code, 2, some .boolean, 2, false, 1)) (dt := nn_dt230) (own := "NameNotesModel") (KI := []) (KJ := []) (PF := []) (PS := []) (PM := []) (KS := []) hinj rfl rfl (by decide +kernel) nh_nil nh_nil nh_nil nh_nil nh_nil nh_nil ?_
  intro p e s m below meth c R Q ρ σ hE hK hsy hP hRT
  obtain ⟨hx, hb, -⟩ := hE
  replace hb : c.code = prog_14_method_9_code := hb
  have h0 : ρ 0 = 0 := hK.2.2.1
  have hb1 : (0 : Int) ≤ ρ 1 ∧ ρ 1 ≤ 511 := hK.1 1 (by decide)
  obtain ⟨v, hv⟩ : ∃ v : Nat, ρ 1 = (v : Int) := ⟨(ρ 1).toNat, by omega⟩
  have hv5 : v < 512 := by omega
  have hd1 : σ 139 (ab_kv ρ 2001000) = ρ 2 + 0 := (hK.2.2.2.2.1 _ List.mem_cons_self).2.2
  have hd2 : σ 131 (ab_kv ρ 2001000) = ρ 3 + 0 := (hK.2.2.2.2.1 _ (List.mem_cons_of_mem _ List.mem_cons_self)).2.2
  rw [nh_kv, hv, Int.toNat_natCast, nh_tabx (x := 8) hK.2.2.2.2.2.1 (by decide) (by decide) hv5] at hd1
  rw [nh_kv, hv, Int.toNat_natCast, nh_tab9 hK.2.2.2.2.2.1 hv5] at hd2
  have hl := lv_entry ([Value.int (Int32.ofInt (ρ 1 + 0)), Value.int (Int32.ofInt (ρ 0 + 8))]) (n := 2) (Nat.le_of_ble_eq_true rfl)
  show W p l e R s m ([Value.int (Int32.ofInt (ρ 1 + 0)), Value.int (Int32.ofInt (ρ 0 + 8))] : List Value).toArray below meth c s.heap [] 0 0 Q (entryFrame m ([Value.int (Int32.ofInt (ρ 1 + 0)), Value.int (Int32.ofInt (ρ 0 + 8))] : List Value).toArray 2)
  rw [lg_entry_eq]
  generalize (lg_sl ([Value.int (Int32.ofInt (ρ 1 + 0)), Value.int (Int32.ofInt (ρ 0 + 8))]) ++ List.replicate (2 - (lg_sl ([Value.int (Int32.ofInt (ρ 1 + 0)), Value.int (Int32.ofInt (ρ 0 + 8))])).length) Slot.unset).toArray = ls at hl ⊢
  have hl : lv_has ls 2 [(0, .int (Int32.ofInt (ρ 1 + 0))), (1, .int (Int32.ofInt (ρ 0 + 8)))] := hl
  have e1 : Int32.ofInt (ρ 1 + 0) = Int32.ofInt ((v : Nat) : Int) := by rw [Int.add_zero, hv]
  have e2 : Int32.ofInt (ρ 0 + 8) = Int32.ofInt ((8 : Nat) : Int) := by rw [h0]; rfl
  rw [e1, e2] at hl
  refine nh_has_run hx hb hl (fun h => ?_) (fun h => ?_)
  ·
    have hbit : v / 2 ^ 8 % 2 = 1 := by exact (nh_bit 8 (by decide) v hv5).mp h
    have p9 : nn_pop 9 v = nn_pop 8 v + v / 2 ^ 8 % 2 := rfl
    have hK3 := nh_addD (nh_addF hK [(3, 2, 1), (2, 3, (-1))] (fun f hf => by
      rcases List.mem_cons.mp hf with rfl | hf
      · exact ⟨by decide, by decide, by show ρ 3 - ρ 2 ≤ 1; omega⟩
      · rw [List.mem_singleton.mp hf]
        exact ⟨by decide, by decide, by show ρ 2 - ρ 3 ≤ -1; omega⟩)) [] nh_nil
    exact hRT 14 ([], [(0, 0, 1)], [(0, 0), (0, 511), (0, 9), (0, 9)], [(3, 2, 1), (2, 3, (-1))], [], []) _ σ s.heap [] ls _ .ireturn 1 (show decode prog_14_method_9_code 14 = .ok (.ireturn, 1) by decide +kernel) (by decide +kernel)
      ⟨hK3, fun i hi => rfl, by decide, nh_L0 hl, ⟨by
        show [Value.int 1] = [Value.int (Int32.ofInt (ρ 0 + 1))]
        rw [h0]; rfl, fun a ha => by rw [List.mem_singleton.mp ha]; exact (by decide : 0 < 4)⟩, hP, va_S.rf⟩
  ·
    have hbit : v / 2 ^ 8 % 2 = 0 := by exact (Nat.mod_two_eq_zero_or_one (v / 2 ^ 8)).resolve_right (fun q => h ((nh_bit 8 (by decide) v hv5).mpr q))
    have p9 : nn_pop 9 v = nn_pop 8 v + v / 2 ^ 8 % 2 := rfl
    have hK3 := nh_addD (nh_addF hK [(3, 2, 0), (2, 3, 0)] (fun f hf => by
      rcases List.mem_cons.mp hf with rfl | hf
      · exact ⟨by decide, by decide, by show ρ 3 - ρ 2 ≤ 0; omega⟩
      · rw [List.mem_singleton.mp hf]
        exact ⟨by decide, by decide, by show ρ 2 - ρ 3 ≤ 0; omega⟩)) [] nh_nil
    exact hRT 14 ([], [(0, 0, 0)], [(0, 0), (0, 511), (0, 9), (0, 9)], [(3, 2, 0), (2, 3, 0)], [], []) _ σ s.heap [] ls _ .ireturn 1 (show decode prog_14_method_9_code 14 = .ok (.ireturn, 1) by decide +kernel) (by decide +kernel)
      ⟨hK3, fun i hi => rfl, by decide, nh_L0 hl, ⟨by
        show [Value.int 0] = [Value.int (Int32.ofInt (ρ 0 + 0))]
        rw [h0]; rfl, fun a ha => by rw [List.mem_singleton.mp ha]; exact (by decide : 0 < 4)⟩, hP, va_S.rf⟩
