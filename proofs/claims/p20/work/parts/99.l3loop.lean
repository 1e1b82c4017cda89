/-! the copy loops of the reference, by hand -/
section
variable {p : Program} {l : Launch} {e : Env} {R : Room} {s : State} {m : MethodId} {args : Array Value} {below : List Frame} {meth : Method} {c : Code} {H0 : Heap} {cells slots : Nat} {Q : State → Prop}
variable {ad wr cr : Nat → Nat} {cy : Nat → ClassId} {D : va_G} {A : Nat → Prop} {Ts : List Jvm.Cond} {KI KJ : List (Nat × Int)} {PS : ab_PS} {PM : ab_PC2} {KS : ab_KS} {lev sc n0 : Nat} {ρ0 : Nat → Int}
set_option maxHeartbeats 4000000 in
/-- image: 'now' into a half of 'kept' -/
theorem nl_image {dt : ab_DT} {σ9 : ab_SG} {k : Nat} (hk2 : k < 2) (hE : ab_Ev p l s m args meth c prog_14_method_150_code 3 lev R cy ad wr cr D vwCl nn_sh nn_T nn_C "NameNotesModel" A H0 Ts nn_TT nn_NW nn_MT KI KJ (nn_PF20.map (fun x => x.1)) nn_kd PS PM KS sc n0 ρ0 cells slots dt σ9) {σ : ab_SG} :
    ∀ (d i : Nat) (H : Heap) (locs : List Loc) (ls : Array Slot), i + d = 474 → lv_has ls 3 [(2, .int (Int32.ofInt ((i : Nat) : Int))), (1, .int (Int32.ofInt ((k : Nat) : Int))), (0, .ref (ad 93))] → va_P D vwCl (ab_WD cy ad wr nn_sh (nc_cp σ 97 (474 * k) 95 0 i)) H → va_S A H0 H locs →
    (∀ (H : Heap) (locs : List Loc) (ls : Array Slot), lv_has ls 3 [(2, .int (Int32.ofInt ((474 : Nat) : Int))), (1, .int (Int32.ofInt ((k : Nat) : Int))), (0, .ref (ad 93))] → va_P D vwCl (ab_WD cy ad wr nn_sh (nc_cp σ 97 (474 * k) 95 0 474)) H → va_S A H0 H locs → W p l e R s m args below meth c H locs cells slots Q (F0 m 53 ls [])) →
    W p l e R s m args below meth c H locs cells slots Q (F0 m 22 ls []) := by
  obtain ⟨hx, hb, hml, hown, hts, hKK, hN, hTT, hcode, hA, hA2, hPM, hKS, hR, hKI, hKJ, hPF, hD, -⟩ := hE
  intro d
  induction d with
  | zero =>
    intro i H locs ls hi hl hP hS kk
    have hi : i = 474 := by omega
    subst hi
    refine lv_iload_n hx hb (show decode prog_14_method_150_code 22 = .ok (.iload_n 2, 1) by decide +kernel) rfl (lv_at hl 0 rfl) ?_
    refine lv_sipush (v := Int32.ofInt ((474 : Nat) : Int)) hx hb (show decode prog_14_method_150_code 23 = .ok (.sipush 474, 3) by decide +kernel) (by decide) ?_
    refine lv_icmp_ge (tgt := 53) hx hb (show decode prog_14_method_150_code 26 = .ok (.if_icmp .ge 27, 3) by decide +kernel) (by decide) (fun h => ?_) (fun h => ?_)
    · exact kk H locs ls hl hP hS
    · exact absurd ((nc_le (by decide) (by decide)).mpr (Nat.le_refl 474)) h
  | succ d ih =>
    intro i H locs ls hi hl hP hS kk
    refine lv_iload_n hx hb (show decode prog_14_method_150_code 22 = .ok (.iload_n 2, 1) by decide +kernel) rfl (lv_at hl 0 rfl) ?_
    refine lv_sipush (v := Int32.ofInt ((474 : Nat) : Int)) hx hb (show decode prog_14_method_150_code 23 = .ok (.sipush 474, 3) by decide +kernel) (by decide) ?_
    refine lv_icmp_ge (tgt := 53) hx hb (show decode prog_14_method_150_code 26 = .ok (.if_icmp .ge 27, 3) by decide +kernel) (by decide) (fun h => ?_) (fun h => ?_)
    · exact absurd ((nc_le (by decide) (by omega)).mp h) (by omega)
    ·
      refine lv_aload_n hx hb (show decode prog_14_method_150_code 29 = .ok (.aload_n 0, 1) by decide +kernel) rfl (lv_at hl 2 rfl) ?_
      refine ab_getf_ok (k := 93) (ci := 11) (j := 16) (ty := 0) (fs := nl_fs) (f := (2, 97)) hx hb hown hts hKK hPF (x := 19) (by decide +kernel) nl_sh (by decide +kernel) (show decode prog_14_method_150_code 30 = .ok (.getfield 19, 3) by decide +kernel) hP ?_
      refine lv_sipush (v := Int32.ofInt ((474 : Nat) : Int)) hx hb (show decode prog_14_method_150_code 33 = .ok (.sipush 474, 3) by decide +kernel) (by decide) ?_
      refine lv_iload_n hx hb (show decode prog_14_method_150_code 36 = .ok (.iload_n 1, 1) by decide +kernel) rfl (lv_at hl 1 rfl) ?_
      refine lv_imul hx hb (show decode prog_14_method_150_code 37 = .ok (.imul, 1) by decide +kernel) ?_
      refine lv_iload_n hx hb (show decode prog_14_method_150_code 38 = .ok (.iload_n 2, 1) by decide +kernel) rfl (lv_at hl 0 rfl) ?_
      refine lv_iadd hx hb (show decode prog_14_method_150_code 39 = .ok (.iadd, 1) by decide +kernel) ?_
      rw [show Int32.ofInt ((474 : Nat) : Int) * Int32.ofInt ((k : Nat) : Int) + Int32.ofInt ((i : Nat) : Int) = Int32.ofInt ((474 * k + i : Nat) : Int) by rw [← Int32.ofInt_mul, ← Int32.ofInt_add]; congr 1]
      refine lv_aload_n hx hb (show decode prog_14_method_150_code 40 = .ok (.aload_n 0, 1) by decide +kernel) rfl (lv_at hl 2 rfl) ?_
      refine ab_getf_ok (k := 93) (ci := 11) (j := 14) (ty := 0) (fs := nl_fs) (f := (2, 95)) hx hb hown hts hKK hPF (x := 13) (by decide +kernel) nl_sh (by decide +kernel) (show decode prog_14_method_150_code 41 = .ok (.getfield 13, 3) by decide +kernel) hP ?_
      refine lv_iload_n hx hb (show decode prog_14_method_150_code 44 = .ok (.iload_n 2, 1) by decide +kernel) rfl (lv_at hl 0 rfl) ?_
      obtain ⟨v1, v2⟩ := ab_idx (x := ((i : Nat) : Int)) (n := 474) (by omega) (by omega) (by decide)
      refine va_iald hx hb hKK hP 95 0 (ab_WD_get (sp := .inr (0, 474)) (by rfl)) rfl v1 (show decode prog_14_method_150_code 45 = .ok (.iaload, 1) by decide +kernel) ?_
      rw [v2, Int.toNat_natCast]
      rw [nc_cp_src (by decide)]
      obtain ⟨w1, w2⟩ := ab_idx (x := ((474 * k + i : Nat) : Int)) (n := 948) (by omega) (by omega) (by decide)
      refine va_iast hx hb hKK hP (hD _) hS 97 0 (ab_WD_get (sp := .inr (0, 948)) (by rfl)) rfl w1 (show decode prog_14_method_150_code 46 = .ok (.iastore, 1) by decide +kernel) (fun H1 locs1 hP1 _ hS1 => ?_)
      have hP1 : va_P D vwCl (ab_WD cy ad wr nn_sh (nc_cp σ 97 (474 * k) 95 0 (i + 1))) H1 := by
        rw [ab_WD_set (σ' := ab_ups (nc_cp σ 97 (474 * k) 95 0 i) 97 (474 * k + i) (σ 95 i)) (sp := .inr (0, 948)) (by rfl) ?_ (fun a ha9 => ab_ups_row ha9)] at hP1
        · rw [show σ 95 i = σ 95 (0 + i) by rw [Nat.zero_add], nc_cp1] at hP1; exact hP1
        · show _ = Sum.inl (cy 0, (948, Sum.inl (fun j => Int32.ofInt (ab_ups (nc_cp σ 97 (474 * k) 95 0 i) 97 (474 * k + i) (σ 95 i) 97 j))))
          rw [ab_row32, w2, Int.toNat_natCast]
      refine lv_iinc (v := Int32.ofInt ((i + 1 : Nat) : Int)) (lv' := [(2, .int (Int32.ofInt ((i + 1 : Nat) : Int))), (1, .int (Int32.ofInt ((k : Nat) : Int))), (0, .ref (ad 93))]) hx hb (show decode prog_14_method_150_code 47 = .ok (.iinc 2 1, 3) by decide +kernel) hl (k := 0) rfl (by rw [← Int32.ofInt_add]; congr 1) (by decide) rfl (fun ls hl => ?_)
      refine lv_goto (tgt := 22) hx hb (show decode prog_14_method_150_code 50 = .ok (.goto (-28), 3) by decide +kernel) (by decide) ?_
      exact ih (i + 1) H1 locs1 ls (by omega) hl hP1 hS1 kk
set_option maxHeartbeats 4000000 in
/-- restore: a half of 'kept' into 'now' -/
theorem nl_restore {dt : ab_DT} {σ9 : ab_SG} {k : Nat} (hk2 : k < 2) (hE : ab_Ev p l s m args meth c prog_14_method_151_code 3 lev R cy ad wr cr D vwCl nn_sh nn_T nn_C "NameNotesModel" A H0 Ts nn_TT nn_NW nn_MT KI KJ (nn_PF20.map (fun x => x.1)) nn_kd PS PM KS sc n0 ρ0 cells slots dt σ9) {σ : ab_SG} :
    ∀ (d i : Nat) (H : Heap) (locs : List Loc) (ls : Array Slot), i + d = 474 → lv_has ls 3 [(2, .int (Int32.ofInt ((i : Nat) : Int))), (1, .int (Int32.ofInt ((k : Nat) : Int))), (0, .ref (ad 93))] → va_P D vwCl (ab_WD cy ad wr nn_sh (nc_cp σ 95 0 97 (474 * k) i)) H → va_S A H0 H locs →
    (∀ (H : Heap) (locs : List Loc) (ls : Array Slot), lv_has ls 3 [(2, .int (Int32.ofInt ((474 : Nat) : Int))), (1, .int (Int32.ofInt ((k : Nat) : Int))), (0, .ref (ad 93))] → va_P D vwCl (ab_WD cy ad wr nn_sh (nc_cp σ 95 0 97 (474 * k) 474)) H → va_S A H0 H locs → W p l e R s m args below meth c H locs cells slots Q (F0 m 58 ls [])) →
    W p l e R s m args below meth c H locs cells slots Q (F0 m 27 ls []) := by
  obtain ⟨hx, hb, hml, hown, hts, hKK, hN, hTT, hcode, hA, hA2, hPM, hKS, hR, hKI, hKJ, hPF, hD, -⟩ := hE
  intro d
  induction d with
  | zero =>
    intro i H locs ls hi hl hP hS kk
    have hi : i = 474 := by omega
    subst hi
    refine lv_iload_n hx hb (show decode prog_14_method_151_code 27 = .ok (.iload_n 2, 1) by decide +kernel) rfl (lv_at hl 0 rfl) ?_
    refine lv_sipush (v := Int32.ofInt ((474 : Nat) : Int)) hx hb (show decode prog_14_method_151_code 28 = .ok (.sipush 474, 3) by decide +kernel) (by decide) ?_
    refine lv_icmp_ge (tgt := 58) hx hb (show decode prog_14_method_151_code 31 = .ok (.if_icmp .ge 27, 3) by decide +kernel) (by decide) (fun h => ?_) (fun h => ?_)
    · exact kk H locs ls hl hP hS
    · exact absurd ((nc_le (by decide) (by decide)).mpr (Nat.le_refl 474)) h
  | succ d ih =>
    intro i H locs ls hi hl hP hS kk
    refine lv_iload_n hx hb (show decode prog_14_method_151_code 27 = .ok (.iload_n 2, 1) by decide +kernel) rfl (lv_at hl 0 rfl) ?_
    refine lv_sipush (v := Int32.ofInt ((474 : Nat) : Int)) hx hb (show decode prog_14_method_151_code 28 = .ok (.sipush 474, 3) by decide +kernel) (by decide) ?_
    refine lv_icmp_ge (tgt := 58) hx hb (show decode prog_14_method_151_code 31 = .ok (.if_icmp .ge 27, 3) by decide +kernel) (by decide) (fun h => ?_) (fun h => ?_)
    · exact absurd ((nc_le (by decide) (by omega)).mp h) (by omega)
    ·
      refine lv_aload_n hx hb (show decode prog_14_method_151_code 34 = .ok (.aload_n 0, 1) by decide +kernel) rfl (lv_at hl 2 rfl) ?_
      refine ab_getf_ok (k := 93) (ci := 11) (j := 14) (ty := 0) (fs := nl_fs) (f := (2, 95)) hx hb hown hts hKK hPF (x := 13) (by decide +kernel) nl_sh (by decide +kernel) (show decode prog_14_method_151_code 35 = .ok (.getfield 13, 3) by decide +kernel) hP ?_
      refine lv_iload_n hx hb (show decode prog_14_method_151_code 38 = .ok (.iload_n 2, 1) by decide +kernel) rfl (lv_at hl 0 rfl) ?_
      refine lv_aload_n hx hb (show decode prog_14_method_151_code 39 = .ok (.aload_n 0, 1) by decide +kernel) rfl (lv_at hl 2 rfl) ?_
      refine ab_getf_ok (k := 93) (ci := 11) (j := 16) (ty := 0) (fs := nl_fs) (f := (2, 97)) hx hb hown hts hKK hPF (x := 19) (by decide +kernel) nl_sh (by decide +kernel) (show decode prog_14_method_151_code 40 = .ok (.getfield 19, 3) by decide +kernel) hP ?_
      refine lv_sipush (v := Int32.ofInt ((474 : Nat) : Int)) hx hb (show decode prog_14_method_151_code 43 = .ok (.sipush 474, 3) by decide +kernel) (by decide) ?_
      refine lv_iload_n hx hb (show decode prog_14_method_151_code 46 = .ok (.iload_n 1, 1) by decide +kernel) rfl (lv_at hl 1 rfl) ?_
      refine lv_imul hx hb (show decode prog_14_method_151_code 47 = .ok (.imul, 1) by decide +kernel) ?_
      refine lv_iload_n hx hb (show decode prog_14_method_151_code 48 = .ok (.iload_n 2, 1) by decide +kernel) rfl (lv_at hl 0 rfl) ?_
      refine lv_iadd hx hb (show decode prog_14_method_151_code 49 = .ok (.iadd, 1) by decide +kernel) ?_
      rw [show Int32.ofInt ((474 : Nat) : Int) * Int32.ofInt ((k : Nat) : Int) + Int32.ofInt ((i : Nat) : Int) = Int32.ofInt ((474 * k + i : Nat) : Int) by rw [← Int32.ofInt_mul, ← Int32.ofInt_add]; congr 1]
      obtain ⟨v1, v2⟩ := ab_idx (x := ((474 * k + i : Nat) : Int)) (n := 948) (by omega) (by omega) (by decide)
      refine va_iald hx hb hKK hP 97 0 (ab_WD_get (sp := .inr (0, 948)) (by rfl)) rfl v1 (show decode prog_14_method_151_code 50 = .ok (.iaload, 1) by decide +kernel) ?_
      rw [v2, Int.toNat_natCast]
      rw [nc_cp_src (by decide)]
      obtain ⟨w1, w2⟩ := ab_idx (x := ((i : Nat) : Int)) (n := 474) (by omega) (by omega) (by decide)
      refine va_iast hx hb hKK hP (hD _) hS 95 0 (ab_WD_get (sp := .inr (0, 474)) (by rfl)) rfl w1 (show decode prog_14_method_151_code 51 = .ok (.iastore, 1) by decide +kernel) (fun H1 locs1 hP1 _ hS1 => ?_)
      have hP1 : va_P D vwCl (ab_WD cy ad wr nn_sh (nc_cp σ 95 0 97 (474 * k) (i + 1))) H1 := by
        rw [ab_WD_set (σ' := ab_ups (nc_cp σ 95 0 97 (474 * k) i) 95 (i) (σ 97 (474 * k + i))) (sp := .inr (0, 474)) (by rfl) ?_ (fun a ha9 => ab_ups_row ha9)] at hP1
        · rw [show ab_ups (nc_cp σ 95 0 97 (474 * k) i) 95 i = ab_ups (nc_cp σ 95 0 97 (474 * k) i) 95 (0 + i) by rw [Nat.zero_add], nc_cp1] at hP1; exact hP1
        · show _ = Sum.inl (cy 0, (474, Sum.inl (fun j => Int32.ofInt (ab_ups (nc_cp σ 95 0 97 (474 * k) i) 95 (i) (σ 97 (474 * k + i)) 95 j))))
          rw [ab_row32, w2, Int.toNat_natCast]
      refine lv_iinc (v := Int32.ofInt ((i + 1 : Nat) : Int)) (lv' := [(2, .int (Int32.ofInt ((i + 1 : Nat) : Int))), (1, .int (Int32.ofInt ((k : Nat) : Int))), (0, .ref (ad 93))]) hx hb (show decode prog_14_method_151_code 52 = .ok (.iinc 2 1, 3) by decide +kernel) hl (k := 0) rfl (by rw [← Int32.ofInt_add]; congr 1) (by decide) rfl (fun ls hl => ?_)
      refine lv_goto (tgt := 27) hx hb (show decode prog_14_method_151_code 55 = .ok (.goto (-28), 3) by decide +kernel) (by decide) ?_
      exact ih (i + 1) H1 locs1 ls (by omega) hl hP1 hS1 kk
set_option maxHeartbeats 4000000 in
/-- sentence: 'node' into 'now' -/
theorem nl_sentence {dt : ab_DT} {σ9 : ab_SG} (hE : ab_Ev p l s m args meth c prog_14_method_147_code 2 lev R cy ad wr cr D vwCl nn_sh nn_T nn_C "NameNotesModel" A H0 Ts nn_TT nn_NW nn_MT KI KJ (nn_PF20.map (fun x => x.1)) nn_kd PS PM KS sc n0 ρ0 cells slots dt σ9) {σ : ab_SG} :
    ∀ (d i : Nat) (H : Heap) (locs : List Loc) (ls : Array Slot), i + d = 240 → lv_has ls 2 [(1, .int (Int32.ofInt ((i : Nat) : Int))), (0, .ref (ad 93))] → va_P D vwCl (ab_WD cy ad wr nn_sh (nc_cp σ 95 234 121 0 i)) H → va_S A H0 H locs →
    (∀ (H : Heap) (locs : List Loc) (ls : Array Slot), lv_has ls 2 [(1, .int (Int32.ofInt ((240 : Nat) : Int))), (0, .ref (ad 93))] → va_P D vwCl (ab_WD cy ad wr nn_sh (nc_cp σ 95 234 121 0 240)) H → va_S A H0 H locs → W p l e R s m args below meth c H locs cells slots Q (F0 m 108 ls [])) →
    W p l e R s m args below meth c H locs cells slots Q (F0 m 79 ls []) := by
  obtain ⟨hx, hb, hml, hown, hts, hKK, hN, hTT, hcode, hA, hA2, hPM, hKS, hR, hKI, hKJ, hPF, hD, -⟩ := hE
  intro d
  induction d with
  | zero =>
    intro i H locs ls hi hl hP hS kk
    have hi : i = 240 := by omega
    subst hi
    refine lv_iload_n hx hb (show decode prog_14_method_147_code 79 = .ok (.iload_n 1, 1) by decide +kernel) rfl (lv_at hl 0 rfl) ?_
    refine lv_sipush (v := Int32.ofInt ((240 : Nat) : Int)) hx hb (show decode prog_14_method_147_code 80 = .ok (.sipush 240, 3) by decide +kernel) (by decide) ?_
    refine lv_icmp_ge (tgt := 108) hx hb (show decode prog_14_method_147_code 83 = .ok (.if_icmp .ge 25, 3) by decide +kernel) (by decide) (fun h => ?_) (fun h => ?_)
    · exact kk H locs ls hl hP hS
    · exact absurd ((nc_le (by decide) (by decide)).mpr (Nat.le_refl 240)) h
  | succ d ih =>
    intro i H locs ls hi hl hP hS kk
    refine lv_iload_n hx hb (show decode prog_14_method_147_code 79 = .ok (.iload_n 1, 1) by decide +kernel) rfl (lv_at hl 0 rfl) ?_
    refine lv_sipush (v := Int32.ofInt ((240 : Nat) : Int)) hx hb (show decode prog_14_method_147_code 80 = .ok (.sipush 240, 3) by decide +kernel) (by decide) ?_
    refine lv_icmp_ge (tgt := 108) hx hb (show decode prog_14_method_147_code 83 = .ok (.if_icmp .ge 25, 3) by decide +kernel) (by decide) (fun h => ?_) (fun h => ?_)
    · exact absurd ((nc_le (by decide) (by omega)).mp h) (by omega)
    ·
      refine lv_aload_n hx hb (show decode prog_14_method_147_code 86 = .ok (.aload_n 0, 1) by decide +kernel) rfl (lv_at hl 1 rfl) ?_
      refine ab_getf_ok (k := 93) (ci := 11) (j := 14) (ty := 0) (fs := nl_fs) (f := (2, 95)) hx hb hown hts hKK hPF (x := 13) (by decide +kernel) nl_sh (by decide +kernel) (show decode prog_14_method_147_code 87 = .ok (.getfield 13, 3) by decide +kernel) hP ?_
      refine lv_sipush (v := Int32.ofInt ((234 : Nat) : Int)) hx hb (show decode prog_14_method_147_code 90 = .ok (.sipush 234, 3) by decide +kernel) (by decide) ?_
      refine lv_iload_n hx hb (show decode prog_14_method_147_code 93 = .ok (.iload_n 1, 1) by decide +kernel) rfl (lv_at hl 0 rfl) ?_
      refine lv_iadd hx hb (show decode prog_14_method_147_code 94 = .ok (.iadd, 1) by decide +kernel) ?_
      rw [show Int32.ofInt ((234 : Nat) : Int) + Int32.ofInt ((i : Nat) : Int) = Int32.ofInt ((234 + i : Nat) : Int) by rw [← Int32.ofInt_add]; congr 1]
      refine lv_aload_n hx hb (show decode prog_14_method_147_code 95 = .ok (.aload_n 0, 1) by decide +kernel) rfl (lv_at hl 1 rfl) ?_
      refine ab_getf_ok (k := 93) (ci := 11) (j := 58) (ty := 0) (fs := nl_fs) (f := (2, 121)) hx hb hown hts hKK hPF (x := 97) (by decide +kernel) nl_sh (by decide +kernel) (show decode prog_14_method_147_code 96 = .ok (.getfield 97, 3) by decide +kernel) hP ?_
      refine lv_iload_n hx hb (show decode prog_14_method_147_code 99 = .ok (.iload_n 1, 1) by decide +kernel) rfl (lv_at hl 0 rfl) ?_
      obtain ⟨v1, v2⟩ := ab_idx (x := ((i : Nat) : Int)) (n := 240) (by omega) (by omega) (by decide)
      refine va_iald hx hb hKK hP 121 0 (ab_WD_get (sp := .inr (0, 240)) (by rfl)) rfl v1 (show decode prog_14_method_147_code 100 = .ok (.iaload, 1) by decide +kernel) ?_
      rw [v2, Int.toNat_natCast]
      rw [nc_cp_src (by decide)]
      obtain ⟨w1, w2⟩ := ab_idx (x := ((234 + i : Nat) : Int)) (n := 474) (by omega) (by omega) (by decide)
      refine va_iast hx hb hKK hP (hD _) hS 95 0 (ab_WD_get (sp := .inr (0, 474)) (by rfl)) rfl w1 (show decode prog_14_method_147_code 101 = .ok (.iastore, 1) by decide +kernel) (fun H1 locs1 hP1 _ hS1 => ?_)
      have hP1 : va_P D vwCl (ab_WD cy ad wr nn_sh (nc_cp σ 95 234 121 0 (i + 1))) H1 := by
        rw [ab_WD_set (σ' := ab_ups (nc_cp σ 95 234 121 0 i) 95 (234 + i) (σ 121 i)) (sp := .inr (0, 474)) (by rfl) ?_ (fun a ha9 => ab_ups_row ha9)] at hP1
        · rw [show σ 121 i = σ 121 (0 + i) by rw [Nat.zero_add], nc_cp1] at hP1; exact hP1
        · show _ = Sum.inl (cy 0, (474, Sum.inl (fun j => Int32.ofInt (ab_ups (nc_cp σ 95 234 121 0 i) 95 (234 + i) (σ 121 i) 95 j))))
          rw [ab_row32, w2, Int.toNat_natCast]
      refine lv_iinc (v := Int32.ofInt ((i + 1 : Nat) : Int)) (lv' := [(1, .int (Int32.ofInt ((i + 1 : Nat) : Int))), (0, .ref (ad 93))]) hx hb (show decode prog_14_method_147_code 102 = .ok (.iinc 1 1, 3) by decide +kernel) hl (k := 0) rfl (by rw [← Int32.ofInt_add]; congr 1) (by decide) rfl (fun ls hl => ?_)
      refine lv_goto (tgt := 79) hx hb (show decode prog_14_method_147_code 105 = .ok (.goto (-26), 3) by decide +kernel) (by decide) ?_
      exact ih (i + 1) H1 locs1 ls (by omega) hl hP1 hS1 kk
/-- what studio() lays into 'now' -/
def nl_st (σ : ab_SG) (n : Nat) : ab_SG := fun a b => if a = 95 ∧ b < n then (if b < 232 then σ 96 b else 0) else σ a b
theorem nl_st0 {σ : ab_SG} : nl_st σ 0 = σ := by
  funext a b
  exact if_neg (by omega)
theorem nl_st_src {σ : ab_SG} {n a b : Nat} (h : a ≠ 95) : nl_st σ n a b = σ a b := if_neg (fun q => h q.1)
theorem nl_st1 {σ : ab_SG} {i : Nat} {x : Int} (hx : x = if i < 232 then σ 96 i else 0) : ab_ups (nl_st σ i) 95 i x = nl_st σ (i + 1) := by
  funext a b
  unfold ab_ups nl_st
  by_cases h1 : a = 95 ∧ b = i
  · rw [if_pos h1, if_pos (by omega), h1.2, hx]
  · rw [if_neg h1]
    by_cases h2 : a = 95 ∧ b < i
    · have h3 : a = 95 ∧ b < i + 1 := ⟨h2.1, by omega⟩
      rw [if_pos h2, if_pos h3]
    · have h3 : ¬ (a = 95 ∧ b < i + 1) := by omega
      rw [if_neg h2, if_neg h3]
set_option maxHeartbeats 4000000 in
/-- studio: 'read' into 'now', nought behind it -/
theorem nl_studio {dt : ab_DT} {σ9 : ab_SG} {a1 : Int32} (hE : ab_Ev p l s m args meth c prog_14_method_39_code 3 lev R cy ad wr cr D vwCl nn_sh nn_T nn_C "NameNotesModel" A H0 Ts nn_TT nn_NW nn_MT KI KJ (nn_PF20.map (fun x => x.1)) nn_kd PS PM KS sc n0 ρ0 cells slots dt σ9) {σ : ab_SG} :
    ∀ (d i : Nat) (H : Heap) (locs : List Loc) (ls : Array Slot), i + d = 474 → lv_has ls 3 [(2, .int (Int32.ofInt ((i : Nat) : Int))), (1, .int a1), (0, .ref (ad 93))] → va_P D vwCl (ab_WD cy ad wr nn_sh (nl_st σ i)) H → va_S A H0 H locs →
    (∀ (H : Heap) (locs : List Loc) (ls : Array Slot), lv_has ls 3 [(2, .int (Int32.ofInt ((474 : Nat) : Int))), (1, .int a1), (0, .ref (ad 93))] → va_P D vwCl (ab_WD cy ad wr nn_sh (nl_st σ 474)) H → va_S A H0 H locs → W p l e R s m args below meth c H locs cells slots Q (F0 m 154 ls [])) →
    W p l e R s m args below meth c H locs cells slots Q (F0 m 118 ls []) := by
  obtain ⟨hx, hb, hml, hown, hts, hKK, hN, hTT, hcode, hA, hA2, hPM, hKS, hR, hKI, hKJ, hPF, hD, -⟩ := hE
  intro d
  induction d with
  | zero =>
    intro i H locs ls hi hl hP hS kk
    have hi : i = 474 := by omega
    subst hi
    refine lv_iload_n hx hb (show decode prog_14_method_39_code 118 = .ok (.iload_n 2, 1) by decide +kernel) rfl (lv_at hl 0 rfl) ?_
    refine lv_sipush (v := Int32.ofInt ((474 : Nat) : Int)) hx hb (show decode prog_14_method_39_code 119 = .ok (.sipush 474, 3) by decide +kernel) (by decide) ?_
    refine lv_icmp_ge (tgt := 154) hx hb (show decode prog_14_method_39_code 122 = .ok (.if_icmp .ge 32, 3) by decide +kernel) (by decide) (fun h => ?_) (fun h => ?_)
    · exact kk H locs ls hl hP hS
    · exact absurd ((nc_le (by decide) (by decide)).mpr (Nat.le_refl 474)) h
  | succ d ih =>
    intro i H locs ls hi hl hP hS kk
    refine lv_iload_n hx hb (show decode prog_14_method_39_code 118 = .ok (.iload_n 2, 1) by decide +kernel) rfl (lv_at hl 0 rfl) ?_
    refine lv_sipush (v := Int32.ofInt ((474 : Nat) : Int)) hx hb (show decode prog_14_method_39_code 119 = .ok (.sipush 474, 3) by decide +kernel) (by decide) ?_
    refine lv_icmp_ge (tgt := 154) hx hb (show decode prog_14_method_39_code 122 = .ok (.if_icmp .ge 32, 3) by decide +kernel) (by decide) (fun h => ?_) (fun h => ?_)
    · exact absurd ((nc_le (by decide) (by omega)).mp h) (by omega)
    ·
      refine lv_aload_n hx hb (show decode prog_14_method_39_code 125 = .ok (.aload_n 0, 1) by decide +kernel) rfl (lv_at hl 2 rfl) ?_
      refine ab_getf_ok (k := 93) (ci := 11) (j := 14) (ty := 0) (fs := nl_fs) (f := (2, 95)) hx hb hown hts hKK hPF (x := 13) (by decide +kernel) nl_sh (by decide +kernel) (show decode prog_14_method_39_code 126 = .ok (.getfield 13, 3) by decide +kernel) hP ?_
      refine lv_iload_n hx hb (show decode prog_14_method_39_code 129 = .ok (.iload_n 2, 1) by decide +kernel) rfl (lv_at hl 0 rfl) ?_
      refine lv_iload_n hx hb (show decode prog_14_method_39_code 130 = .ok (.iload_n 2, 1) by decide +kernel) rfl (lv_at hl 0 rfl) ?_
      refine lv_sipush (v := Int32.ofInt ((232 : Nat) : Int)) hx hb (show decode prog_14_method_39_code 131 = .ok (.sipush 232, 3) by decide +kernel) (by decide) ?_
      have fin : ∀ (x : Int), (x = if i < 232 then σ 96 i else 0) → W p l e R s m args below meth c H locs cells slots Q (F0 m 147 ls [.int (Int32.ofInt x), .int (Int32.ofInt ((i : Nat) : Int)), .ref (ad 95)]) := by
        intro x hx9
        obtain ⟨w1, w2⟩ := ab_idx (x := ((i : Nat) : Int)) (n := 474) (by omega) (by omega) (by decide)
        refine va_iast hx hb hKK hP (hD _) hS 95 0 (ab_WD_get (sp := .inr (0, 474)) (by rfl)) rfl w1 (show decode prog_14_method_39_code 147 = .ok (.iastore, 1) by decide +kernel) (fun H1 locs1 hP1 _ hS1 => ?_)
        have hP1 : va_P D vwCl (ab_WD cy ad wr nn_sh (nl_st σ (i + 1))) H1 := by
          rw [ab_WD_set (σ' := ab_ups (nl_st σ i) 95 (i) (x)) (sp := .inr (0, 474)) (by rfl) ?_ (fun a ha9 => ab_ups_row ha9)] at hP1
          · rw [nl_st1 hx9] at hP1; exact hP1
          · show _ = Sum.inl (cy 0, (474, Sum.inl (fun j => Int32.ofInt (ab_ups (nl_st σ i) 95 (i) (x) 95 j))))
            rw [ab_row32, w2, Int.toNat_natCast]
        refine lv_iinc (v := Int32.ofInt ((i + 1 : Nat) : Int)) (lv' := [(2, .int (Int32.ofInt ((i + 1 : Nat) : Int))), (1, .int a1), (0, .ref (ad 93))]) hx hb (show decode prog_14_method_39_code 148 = .ok (.iinc 2 1, 3) by decide +kernel) hl (k := 0) rfl (by rw [← Int32.ofInt_add]; congr 1) (by decide) rfl (fun ls hl => ?_)
        refine lv_goto (tgt := 118) hx hb (show decode prog_14_method_39_code 151 = .ok (.goto (-33), 3) by decide +kernel) (by decide) ?_
        exact ih (i + 1) H1 locs1 ls (by omega) hl hP1 hS1 kk
      refine lv_icmp_ge (tgt := 146) hx hb (show decode prog_14_method_39_code 134 = .ok (.if_icmp .ge 12, 3) by decide +kernel) (by decide) (fun h2 => ?_) (fun h2 => ?_)
      · refine lv_iconst (v := 0) hx hb (show decode prog_14_method_39_code 146 = .ok (.iconst 0, 1) by decide +kernel) (by decide) ?_
        have h3 := (nc_le (by decide) (by omega)).mp h2
        exact fin 0 (by rw [if_neg (by omega)])
      · have h3 : i < 232 := Nat.lt_of_not_le (fun q => h2 ((nc_le (by decide) (by omega)).mpr q))
        refine lv_aload_n hx hb (show decode prog_14_method_39_code 137 = .ok (.aload_n 0, 1) by decide +kernel) rfl (lv_at hl 2 rfl) ?_
        refine ab_getf_ok (k := 93) (ci := 11) (j := 15) (ty := 0) (fs := nl_fs) (f := (2, 96)) hx hb hown hts hKK hPF (x := 16) (by decide +kernel) nl_sh (by decide +kernel) (show decode prog_14_method_39_code 138 = .ok (.getfield 16, 3) by decide +kernel) hP ?_
        refine lv_iload_n hx hb (show decode prog_14_method_39_code 141 = .ok (.iload_n 2, 1) by decide +kernel) rfl (lv_at hl 0 rfl) ?_
        obtain ⟨v1, v2⟩ := ab_idx (x := ((i : Nat) : Int)) (n := 232) (by omega) (by omega) (by decide)
        refine va_iald hx hb hKK hP 96 0 (ab_WD_get (sp := .inr (0, 232)) (by rfl)) rfl v1 (show decode prog_14_method_39_code 142 = .ok (.iaload, 1) by decide +kernel) ?_
        rw [v2, Int.toNat_natCast]
        rw [nl_st_src (by decide)]
        refine lv_goto (tgt := 147) hx hb (show decode prog_14_method_39_code 143 = .ok (.goto 4, 3) by decide +kernel) (by decide) ?_
        exact fin _ (by rw [if_pos h3])
def nl_str (p : Nat × Nat) : Nat × Nat := cond (p.1.beq 95 && (p.2 + 1).ble 474) (cond ((p.2 + 1).ble 232) (96, p.2) (1000, 0)) p
theorem nl_st_rn {σ : ab_SG} : ∀ p, ab_pv (nl_st σ 474) p = ab_pv σ (nl_str p) := by
  intro p
  unfold nl_str
  cases hc : (p.1.beq 95 && (p.2 + 1).ble 474) with
  | true =>
    rw [Bool.and_eq_true] at hc
    have h1 := ab_beq hc.1
    have h2 := Nat.le_of_ble_eq_true hc.2
    have e1 : p.1.beq 1000 = false := by rw [h1]; rfl
    have e2 : ab_pv (nl_st σ 474) p = if p.2 < 232 then σ 96 p.2 else 0 := by
      unfold ab_pv
      rw [e1]
      exact if_pos ⟨h1, by omega⟩
    rw [e2]
    cases hd : (p.2 + 1).ble 232 with
    | true => rw [if_pos (show p.2 < 232 from Nat.le_of_ble_eq_true hd)]; rfl
    | false =>
      rw [if_neg (fun q => by rw [Nat.ble_eq_true_of_le (show p.2 + 1 ≤ 232 from q)] at hd; cases hd)]
      rfl
  | false =>
    unfold ab_pv
    show cond (p.1.beq 1000) 0 (nl_st σ 474 p.1 p.2) = cond (p.1.beq 1000) 0 (σ p.1 p.2)
    congr 1
    refine if_neg (fun q => ?_)
    rw [show p.1.beq 95 = true by rw [q.1]; rfl, Nat.ble_eq_true_of_le (show p.2 + 1 ≤ 474 from q.2)] at hc
    cases hc
def nl_ser (p : Nat × Nat) : Nat × Nat := cond (p.1.beq 95 && p.2.beq 233) (93, 62) (nc_rn 95 234 121 0 240 p)
theorem nl_se_rn {σ : ab_SG} : ∀ p, ab_pv (nc_cp (ab_ups σ 95 233 (σ 93 62)) 95 234 121 0 240) p = ab_pv σ (nl_ser p) := by
  intro p
  rw [nc_cp_rn (by decide) (by decide)]
  unfold nl_ser
  cases hc : (p.1.beq 95 && p.2.beq 233) with
  | true =>
    rw [Bool.and_eq_true] at hc
    obtain ⟨p1, p2⟩ := p
    have h1 : p1 = 95 := ab_beq hc.1
    have h2 : p2 = 233 := ab_beq hc.2
    subst h1; subst h2
    rfl
  | false =>
    show ab_pv (ab_ups σ 95 233 (σ 93 62)) (nc_rn 95 234 121 0 240 p) = ab_pv σ (nc_rn 95 234 121 0 240 p)
    have key : ∀ q : Nat × Nat, ¬ (q.1 = 95 ∧ q.2 = 233) → ab_pv (ab_ups σ 95 233 (σ 93 62)) q = ab_pv σ q := fun q h => ab_pv_no h
    refine key _ (fun q => ?_)
    unfold nc_rn at q
    cases hd : (p.1.beq 95 && (234 : Nat).ble p.2 && (p.2 + 1).ble (234 + 240)) with
    | true =>
      rw [hd] at q
      have q1 : (121 : Nat) = 95 := q.1
      exact absurd q1 (by decide)
    | false =>
      rw [hd] at q
      have q1 : p.1 = 95 := q.1
      have q2 : p.2 = 233 := q.2
      rw [q1, q2] at hc
      cases hc
theorem nl_se_src {σ : ab_SG} {a b : Nat} (h : a ≠ 95) : nc_cp (ab_ups σ 95 233 (σ 93 62)) 95 234 121 0 240 a b = σ a b := by
  rw [nc_cp_src h]
  exact ab_ups_ne (fun q => h q.1)
set_option maxHeartbeats 4000000 in
theorem nl_sent0 {dt : ab_DT} {σ9 : ab_SG} (hE : ab_Ev p l s m args meth c prog_14_method_147_code 2 lev R cy ad wr cr D vwCl nn_sh nn_T nn_C "NameNotesModel" A H0 Ts nn_TT nn_NW nn_MT KI KJ (nn_PF20.map (fun x => x.1)) nn_kd PS PM KS sc n0 ρ0 cells slots dt σ9) {σ : ab_SG} {H : Heap} {locs : List Loc} {ls : Array Slot} (hl : lv_has ls 2 [(0, .ref (ad 93))]) (hP : va_P D vwCl (ab_WD cy ad wr nn_sh σ) H) (hS : va_S A H0 H locs)
    (kk : ∀ (H : Heap) (locs : List Loc) (ls : Array Slot), lv_has ls 2 [(1, .int (Int32.ofInt ((0 : Nat) : Int))), (0, .ref (ad 93))] → va_P D vwCl (ab_WD cy ad wr nn_sh (ab_ups σ 95 233 (σ 93 62))) H → va_S A H0 H locs → W p l e R s m args below meth c H locs cells slots Q (F0 m 79 ls [])) : W p l e R s m args below meth c H locs cells slots Q (F0 m 65 ls []) := by
  obtain ⟨hx, hb, hml, hown, hts, hKK, hN, hTT, hcode, hA, hA2, hPM, hKS, hR, hKI, hKJ, hPF, hD, -⟩ := hE
  refine lv_aload_n hx hb (show decode prog_14_method_147_code 65 = .ok (.aload_n 0, 1) by decide +kernel) rfl (lv_at hl 0 rfl) ?_
  refine ab_getf_ok (k := 93) (ci := 11) (j := 14) (ty := 0) (fs := nl_fs) (f := (2, 95)) hx hb hown hts hKK hPF (x := 13) (by decide +kernel) nl_sh (by decide +kernel) (show decode prog_14_method_147_code 66 = .ok (.getfield 13, 3) by decide +kernel) hP ?_
  refine lv_sipush (v := Int32.ofInt ((233 : Nat) : Int)) hx hb (show decode prog_14_method_147_code 69 = .ok (.sipush 233, 3) by decide +kernel) (by decide) ?_
  refine lv_aload_n hx hb (show decode prog_14_method_147_code 72 = .ok (.aload_n 0, 1) by decide +kernel) rfl (lv_at hl 0 rfl) ?_
  refine ab_getf_ok (k := 93) (ci := 11) (j := 62) (ty := 0) (fs := nl_fs) (f := (0, 0)) hx hb hown hts hKK hPF (x := 495) (by decide +kernel) nl_sh (by decide +kernel) (show decode prog_14_method_147_code 73 = .ok (.getfield 495, 3) by decide +kernel) hP ?_
  obtain ⟨w1, w2⟩ := ab_idx (x := ((233 : Nat) : Int)) (n := 474) (by omega) (by omega) (by decide)
  refine va_iast hx hb hKK hP (hD _) hS 95 0 (ab_WD_get (sp := .inr (0, 474)) (by rfl)) rfl w1 (show decode prog_14_method_147_code 76 = .ok (.iastore, 1) by decide +kernel) (fun H1 locs1 hP1 _ hS1 => ?_)
  have hP1 : va_P D vwCl (ab_WD cy ad wr nn_sh (ab_ups σ 95 233 (σ 93 62))) H1 := by
    rw [ab_WD_set (σ' := ab_ups (σ) 95 (233) (σ 93 62)) (sp := .inr (0, 474)) (by rfl) ?_ (fun a ha9 => ab_ups_row ha9)] at hP1
    · skip; exact hP1
    · show _ = Sum.inl (cy 0, (474, Sum.inl (fun j => Int32.ofInt (ab_ups (σ) 95 (233) (σ 93 62) 95 j))))
      rw [ab_row32, w2, Int.toNat_natCast]
  refine lv_iconst (v := Int32.ofInt ((0 : Nat) : Int)) hx hb (show decode prog_14_method_147_code 77 = .ok (.iconst 0, 1) by decide +kernel) (by decide) ?_
  refine lv_istore_n (lv' := [(1, .int (Int32.ofInt ((0 : Nat) : Int))), (0, .ref (ad 93))]) hx hb (show decode prog_14_method_147_code 78 = .ok (.istore_n 1, 1) by decide +kernel) rfl hl (by decide) rfl (fun ls hl => ?_)
  exact kk H1 locs1 ls hl hP1 hS1
end
