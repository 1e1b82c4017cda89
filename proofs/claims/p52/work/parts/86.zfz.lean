/-! the checker once more, by recursors alone: each function shown equal to its elder (gen_fz.py) -/
noncomputable section
def zk_if {α : Type} (c : Bool) (t e : α) : α := Bool.rec (motive := fun _ => α) e t c
theorem zk_if_eq : @zk_if = fun (α : Type) (c : Bool) (t e : α) => cond c t e := by funext α c t e; cases c <;> rfl
def zk_an (a b : Bool) : Bool := Bool.rec (motive := fun _ => Bool) false b a
theorem zk_an_eq : @zk_an = fun (a b : Bool) => (a && b) := by funext a b; cases a <;> rfl
def zk_or (a b : Bool) : Bool := Bool.rec (motive := fun _ => Bool) b true a
theorem zk_or_eq : @zk_or = fun (a b : Bool) => (a || b) := by funext a b; cases a <;> rfl
def zk_nt (a : Bool) : Bool := Bool.rec (motive := fun _ => Bool) true false a
theorem zk_nt_eq : @zk_nt = fun (a : Bool) => !a := by funext a; cases a <;> rfl
theorem zk_beq (a b : Nat) : (a == b) = a.beq b := by
  rw [Bool.eq_iff_iff, beq_iff_eq]
  exact ⟨fun h => by rw [h]; exact Nat.beq_refl b, fun h => Nat.eq_of_beq_eq_true h⟩
def zk_neg (a : Int) : Int := Int.rec (motive := fun _ => Int) (fun m => Nat.rec (motive := fun _ => Int) (Int.ofNat 0) (fun k _ => Int.negSucc k) m) (fun m => Int.ofNat (Nat.succ m)) a
theorem zk_neg_eq : @zk_neg = fun a => -a := by
  funext a
  cases a with
  | ofNat m => cases m <;> rfl
  | negSucc m => rfl
def zk_snn (m n : Nat) : Int := Bool.rec (motive := fun _ => Int) (Int.negSucc (Nat.sub (Nat.sub n m) 1)) (Int.ofNat (Nat.sub m n)) (n.ble m)
theorem zk_snn_eq (m n : Nat) : zk_snn m n = (m : Int) - (n : Int) := by
  unfold zk_snn
  cases h : n.ble m with
  | true =>
    have := Nat.le_of_ble_eq_true h
    show (((m - n : Nat)) : Int) = _
    omega
  | false =>
    have : ¬ n ≤ m := fun q => by rw [Nat.ble_eq_true_of_le q] at h; cases h
    show Int.negSucc (n - m - 1) = _
    rw [Int.negSucc_eq]
    omega
def zk_add (a b : Int) : Int := Int.rec (motive := fun _ => Int) (fun m => Int.rec (motive := fun _ => Int) (fun n => Int.ofNat (Nat.add m n)) (fun n => zk_snn m (Nat.succ n)) b) (fun m => Int.rec (motive := fun _ => Int) (fun n => zk_snn n (Nat.succ m)) (fun n => Int.negSucc (Nat.succ (Nat.add m n))) b) a
theorem zk_add_eq : @zk_add = fun a b => a + b := by
  funext a b
  cases a with
  | ofNat m => cases b with
    | ofNat n => rfl
    | negSucc n =>
      show zk_snn m (n + 1) = ((m : Nat) : Int) + Int.negSucc n
      rw [zk_snn_eq, Int.negSucc_eq]
      omega
  | negSucc m => cases b with
    | ofNat n =>
      show zk_snn n (m + 1) = Int.negSucc m + ((n : Nat) : Int)
      rw [zk_snn_eq, Int.negSucc_eq]
      omega
    | negSucc n =>
      show Int.negSucc (m + n + 1) = Int.negSucc m + Int.negSucc n
      rw [Int.negSucc_eq, Int.negSucc_eq, Int.negSucc_eq]
      omega
def zk_sub (a b : Int) : Int := Int.rec (motive := fun _ => Int) (fun m => Int.rec (motive := fun _ => Int) (fun n => zk_snn m n) (fun n => Int.ofNat (Nat.succ (Nat.add m n))) b) (fun m => Int.rec (motive := fun _ => Int) (fun n => Int.negSucc (Nat.add m n)) (fun n => zk_snn n m) b) a
theorem zk_sub_eq : @zk_sub = fun a b => a - b := by
  funext a b
  cases a with
  | ofNat m => cases b with
    | ofNat n =>
      show zk_snn m n = ((m : Nat) : Int) - ((n : Nat) : Int)
      rw [zk_snn_eq]
    | negSucc n =>
      show ((m + n + 1 : Nat) : Int) = ((m : Nat) : Int) - Int.negSucc n
      rw [Int.negSucc_eq]
      omega
  | negSucc m => cases b with
    | ofNat n =>
      show Int.negSucc (m + n) = Int.negSucc m - ((n : Nat) : Int)
      rw [Int.negSucc_eq, Int.negSucc_eq]
      omega
    | negSucc n =>
      show zk_snn n m = Int.negSucc m - Int.negSucc n
      rw [zk_snn_eq, Int.negSucc_eq, Int.negSucc_eq]
      omega
def zk_any {α : Type} (f : α → Bool) (l : List α) : Bool := List.rec (motive := fun _ => Bool) false (fun h _ ih => zk_or (f h) ih) l
theorem zk_any_eq : @zk_any = fun (α : Type) (f : α → Bool) (l : List α) => l.any f := by
  funext α f l
  induction l with
  | nil => rfl
  | cons h l ih =>
    have e : zk_any f (h :: l) = zk_or (f h) (zk_any f l) := rfl
    rw [e, ih, zk_or_eq]
    rfl
def zk_all {α : Type} (f : α → Bool) (l : List α) : Bool := List.rec (motive := fun _ => Bool) true (fun h _ ih => zk_an (f h) ih) l
theorem zk_all_eq : @zk_all = fun (α : Type) (f : α → Bool) (l : List α) => l.all f := by
  funext α f l
  induction l with
  | nil => rfl
  | cons h l ih =>
    have e : zk_all f (h :: l) = zk_an (f h) (zk_all f l) := rfl
    rw [e, ih, zk_an_eq]
    rfl
def zk_map {α β : Type} (f : α → β) (l : List α) : List β := List.rec (motive := fun _ => List β) [] (fun h _ ih => f h :: ih) l
theorem zk_map_eq : @zk_map = fun (α β : Type) (f : α → β) (l : List α) => l.map f := by
  funext α β f l
  induction l with
  | nil => rfl
  | cons h l ih =>
    have e : zk_map f (h :: l) = f h :: zk_map f l := rfl
    rw [e, ih]
    rfl
def zk_flt {α : Type} (f : α → Bool) (l : List α) : List α := List.rec (motive := fun _ => List α) [] (fun h _ ih => zk_if (f h) (h :: ih) ih) l
theorem zk_flt_eq : @zk_flt = fun (α : Type) (f : α → Bool) (l : List α) => l.filter f := by
  funext α f l
  induction l with
  | nil => rfl
  | cons h l ih =>
    have e : zk_flt f (h :: l) = zk_if (f h) (h :: zk_flt f l) (zk_flt f l) := rfl
    rw [e, ih, zk_if_eq]
    show cond (f h) (h :: l.filter f) (l.filter f) = List.filter f (h :: l)
    cases hf : f h with
    | true => rw [List.filter_cons_of_pos hf]; rfl
    | false => rw [List.filter_cons_of_neg (by rw [hf]; exact Bool.false_ne_true)]; rfl
def zk_fmap {α β : Type} (f : α → Option β) (l : List α) : List β := List.rec (motive := fun _ => List β) [] (fun h _ ih => Option.rec (motive := fun _ => List β) ih (fun b => b :: ih) (f h)) l
theorem zk_fmap_eq : @zk_fmap = fun (α β : Type) (f : α → Option β) (l : List α) => l.filterMap f := by
  funext α β f l
  induction l with
  | nil => rfl
  | cons h l ih =>
    have e : zk_fmap f (h :: l) = Option.rec (motive := fun _ => List β) (zk_fmap f l) (fun b => b :: zk_fmap f l) (f h) := rfl
    rw [e, ih]
    show Option.rec (motive := fun _ => List β) (l.filterMap f) (fun b => b :: l.filterMap f) (f h) = List.filterMap f (h :: l)
    cases hf : f h with
    | none => rw [List.filterMap_cons_none hf]
    | some b => rw [List.filterMap_cons_some hf]
def zk_find {α : Type} (f : α → Bool) (l : List α) : Option α := List.rec (motive := fun _ => Option α) none (fun h _ ih => zk_if (f h) (some h) ih) l
theorem zk_find_eq : @zk_find = fun (α : Type) (f : α → Bool) (l : List α) => l.find? f := by
  funext α f l
  induction l with
  | nil => rfl
  | cons h l ih =>
    have e : zk_find f (h :: l) = zk_if (f h) (some h) (zk_find f l) := rfl
    rw [e, ih, zk_if_eq]
    show cond (f h) (some h) (l.find? f) = List.find? f (h :: l)
    rw [List.find?_cons]
    cases f h <;> rfl
def zk_app {α : Type} (a b : List α) : List α := List.rec (motive := fun _ => List α) b (fun h _ ih => h :: ih) a
theorem zk_app_eq : @zk_app = fun (α : Type) (a b : List α) => a ++ b := by
  funext α a b
  induction a with
  | nil => rfl
  | cons h a ih =>
    have e : zk_app (h :: a) b = h :: zk_app a b := rfl
    rw [e, ih]
    rfl
def zk_len {α : Type} (l : List α) : Nat := List.rec (motive := fun _ => Nat) 0 (fun _ _ ih => Nat.succ ih) l
theorem zk_len_eq : @zk_len = fun (α : Type) (l : List α) => l.length := by
  funext α l
  induction l with
  | nil => rfl
  | cons h l ih =>
    have e : zk_len (h :: l) = Nat.succ (zk_len l) := rfl
    rw [e, ih]
    rfl
def zk_get {α : Type} (l : List α) (i : Nat) : Option α := List.rec (motive := fun _ => Nat → Option α) (fun _ => none) (fun h _ ih i => Nat.rec (motive := fun _ => Option α) (some h) (fun m _ => ih m) i) l i
theorem zk_get_eq : @zk_get = fun (α : Type) (l : List α) (i : Nat) => l[i]? := by
  funext α l
  induction l with
  | nil => funext i; rfl
  | cons h l ih =>
    funext i
    cases i with
    | zero => rfl
    | succ i =>
      have e : zk_get (h :: l) (i + 1) = zk_get l i := rfl
      rw [e, congrFun ih i]
      rfl
def zk_set {α : Type} (l : List α) (i : Nat) (v : α) : List α := List.rec (motive := fun _ => Nat → List α) (fun _ => []) (fun h t ih i => Nat.rec (motive := fun _ => List α) (v :: t) (fun m _ => h :: ih m) i) l i
theorem zk_set_eq : @zk_set = fun (α : Type) (l : List α) (i : Nat) (v : α) => l.set i v := by
  funext α l i v
  induction l generalizing i with
  | nil => rfl
  | cons h l ih =>
    cases i with
    | zero => rfl
    | succ i =>
      have e : zk_set (h :: l) (i + 1) v = h :: zk_set l i v := rfl
      rw [e, ih i]
      rfl
def zk_non (n : Nat) : List (Option (Nat × Int)) := Nat.rec (motive := fun _ => List (Option (Nat × Int))) [] (fun _ ih => none :: ih) n
theorem zk_non_eq : @zk_non = fun n => List.replicate n none := by
  funext n
  induction n with
  | zero => rfl
  | succ n ih =>
    have e : zk_non (n + 1) = none :: zk_non n := rfl
    rw [e, ih]
    rfl
def fz_le (a b : Int) : Bool := (Int.rec (motive := fun _ => Bool) (fun m => (Int.rec (motive := fun _ => Bool) (fun n => m.ble n) (fun _ => false) b)) (fun m => (Int.rec (motive := fun _ => Bool) (fun _ => true) (fun n => n.ble m) b)) a)
theorem fz_le_eq : @fz_le = @ab_le := by
  funext a b
  rw [Bool.eq_iff_iff, ab_le_iff]
  cases a with
  | ofNat m => cases b with
    | ofNat n =>
      show m.ble n = true ↔ ((m : Nat) : Int) ≤ ((n : Nat) : Int)
      exact ⟨fun h => Int.ofNat_le.mpr (Nat.le_of_ble_eq_true h), fun h => Nat.ble_eq_true_of_le (Int.ofNat_le.mp h)⟩
    | negSucc n =>
      show false = true ↔ ((m : Nat) : Int) ≤ Int.negSucc n
      rw [Int.negSucc_eq]
      exact ⟨fun h => (by cases h), fun h => (by omega)⟩
  | negSucc m => cases b with
    | ofNat n =>
      show true = true ↔ Int.negSucc m ≤ ((n : Nat) : Int)
      rw [Int.negSucc_eq]
      exact ⟨fun _ => (by omega), fun _ => rfl⟩
    | negSucc n =>
      show n.ble m = true ↔ Int.negSucc m ≤ Int.negSucc n
      rw [Int.negSucc_eq, Int.negSucc_eq]
      exact ⟨fun h => (by have := Nat.le_of_ble_eq_true h; omega), fun h => Nat.ble_eq_true_of_le (by omega)⟩
def fz_min (a b : Int) : Int := (zk_if (fz_le a b) a b)
theorem fz_min_eq : @fz_min = @ab_min := by
  delta fz_min ab_min
  rw [fz_le_eq, zk_if_eq]
  first | done | rfl
def fz_max (a b : Int) : Int := (zk_if (fz_le a b) b a)
theorem fz_max_eq : @fz_max = @ab_max := by
  delta fz_max ab_max
  rw [fz_le_eq, zk_if_eq]
  first | done | rfl
def fz_gd (B : ab_BD) (s : Nat) : Int × Int := (List.rec (motive := fun _ => Nat → Int × Int) (fun _ => (0, 0)) (fun h _ ih s => (Nat.rec (motive := fun _ => Int × Int) h (fun m _ => ih m) s)) B) s
theorem fz_gd_eq : @fz_gd = fun (B : ab_BD) (s : Nat) => B.getD s (0, 0) := by
  funext B
  induction B with
  | nil => funext s; cases s <;> rfl
  | cons h B ih =>
    funext s
    cases s with
    | zero => rfl
    | succ s => exact congrFun ih s
def fz_lo (B : ab_BD) (s : Nat) : Int := (fz_gd B s).1
theorem fz_lo_eq : @fz_lo = @ab_lo := by
  delta fz_lo ab_lo
  rw [fz_gd_eq]
  first | done | rfl
def fz_hi (B : ab_BD) (s : Nat) : Int := (fz_gd B s).2
theorem fz_hi_eq : @fz_hi = @ab_hi := by
  delta fz_hi ab_hi
  rw [fz_gd_eq]
  first | done | rfl
def fz_ubF (F : ab_FT) (s t : Nat) (m : Int) : Int := (List.rec (motive := fun _ => Int → Int) (fun m => m) (fun f _ ih m => (zk_if (f.1.beq s) (zk_if (f.2.1.beq t) (ih (fz_min m f.2.2)) (ih m)) (ih m))) F) m
theorem fz_ubF_eq : ∀ (F : ab_FT) (s t : Nat) (m : Int), fz_ubF F s t m = F.foldl (fun m f => cond (f.1.beq s && f.2.1.beq t) (ab_min m f.2.2) m) m := by
  intro F s t
  induction F with
  | nil => intro m; rfl
  | cons f F ih =>
    intro m
    have e : fz_ubF (f :: F) s t m = zk_if (f.1.beq s) (zk_if (f.2.1.beq t) (fz_ubF F s t (fz_min m f.2.2)) (fz_ubF F s t m)) (fz_ubF F s t m) := rfl
    rw [e, ih, ih, fz_min_eq, List.foldl_cons, zk_if_eq]
    cases f.1.beq s <;> cases f.2.1.beq t <;> rfl
def fz_ub (B : ab_BD) (F : ab_FT) (s t : Nat) : Int := (zk_if (s.beq t) 0 (fz_ubF F s t (zk_sub (fz_hi B s) (fz_lo B t))))
theorem fz_ub_eq : @fz_ub = @ab_ub := by
  funext B F s t
  delta fz_ub
  rw [fz_ubF_eq, fz_hi_eq, fz_lo_eq, zk_sub_eq, zk_if_eq]
  rfl
def fz_asm (B : ab_BD) (F : ab_FT) (s t : Nat) (k : Int) : Option (ab_BD × ab_FT) := (zk_if (fz_le (fz_ub B F s t) k) (some (B, F)) (zk_if (fz_le (zk_neg k) (fz_ub B F t s)) (some (zk_set (zk_set B s (fz_lo B s, fz_min (fz_hi B s) (zk_add (fz_hi B t) k))) t (fz_max (fz_lo B t) (zk_sub (fz_lo B s) k), fz_hi B t), (zk_if (zk_or (s.beq 0) (t.beq 0)) F ((s, t, k) :: F)))) none))
theorem fz_asm_eq : @fz_asm = @ab_asm := by
  delta fz_asm ab_asm
  rw [fz_le_eq, fz_ub_eq, fz_lo_eq, fz_min_eq, fz_hi_eq, fz_max_eq, zk_if_eq, zk_neg_eq, zk_set_eq, zk_add_eq, zk_sub_eq, zk_or_eq]
  first | done | rfl
def fz_in (B : ab_BD) (s : Nat) (c : Int) : Bool := (zk_an (fz_le (-2147483648) (zk_add (fz_lo B s) c)) (fz_le (zk_add (fz_hi B s) c) 2147483647))
theorem fz_in_eq : @fz_in = @ab_in := by
  delta fz_in ab_in
  rw [fz_le_eq, fz_lo_eq, fz_hi_eq, zk_an_eq, zk_add_eq]
  first | done | rfl
def fz_inL (B : ab_BD) (s : Nat) (c : Int) : Bool := (zk_an (fz_le (-9223372036854775808) (zk_add (fz_lo B s) c)) (fz_le (zk_add (fz_hi B s) c) 9223372036854775807))
theorem fz_inL_eq : @fz_inL = @ab_inL := by
  delta fz_inL ab_inL
  rw [fz_le_eq, fz_lo_eq, fz_hi_eq, zk_an_eq, zk_add_eq]
  first | done | rfl
def fz_rd1 (l : List (Nat × Nat × Int × Int)) (a b : Nat) : Option (Int × Int) := (List.rec (motive := fun _ => Option (Int × Int)) none (fun e _ ih => (zk_if (e.1.ble a) (zk_if ((Nat.succ b).ble e.2.1) (some e.2.2) ih) ih)) l)
theorem fz_rd1_eq : @fz_rd1 = @ab_rd1 := by
  funext l a b
  induction l with
  | nil => rfl
  | cons q l ih =>
    have e : fz_rd1 (q :: l) a b = zk_if (q.1.ble a) (zk_if ((b + 1).ble q.2.1) (some q.2.2) (fz_rd1 l a b)) (fz_rd1 l a b) := rfl
    rw [e, ih, zk_if_eq]
    show _ = cond (q.1.ble a && (b + 1).ble q.2.1) (some q.2.2) (ab_rd1 l a b)
    cases q.1.ble a <;> cases (b + 1).ble q.2.1 <;> rfl
def fz_rd (l : ab_RW) (a b : Nat) : Option (Int × Int) := (List.rec (motive := fun _ => Option (Int × Int)) none (fun e _ ih => (zk_if (e.1.ble a) (zk_if ((Nat.succ b).ble e.2.1) (match (fz_rd1 e.2.2 a b) with | some r => some r | none => ih) ih) ih)) l)
theorem fz_rd_eq : @fz_rd = @ab_rd := by
  funext l a b
  induction l with
  | nil => rfl
  | cons q l ih =>
    have e : fz_rd (q :: l) a b = zk_if (q.1.ble a) (zk_if ((b + 1).ble q.2.1) (match fz_rd1 q.2.2 a b with | some r => some r | none => fz_rd l a b) (fz_rd l a b)) (fz_rd l a b) := rfl
    rw [e, ih, fz_rd1_eq, zk_if_eq]
    show _ = (match cond (q.1.ble a && (b + 1).ble q.2.1) (ab_rd1 q.2.2 a b) none with | some r => some r | none => ab_rd l a b)
    cases q.1.ble a <;> cases (b + 1).ble q.2.1 <;> first | rfl | (cases ab_rd1 q.2.2 a b <;> rfl)
def fz_rdT (T : ab_RG) (k a b : Nat) : Option (Int × Int) := (match (zk_get T k) with | some row => fz_rd row a b | none => none)
theorem fz_rdT_eq : @fz_rdT = @ab_rdT := by
  delta fz_rdT ab_rdT
  rw [fz_rd_eq, zk_get_eq]
  first | done | rfl
def fz_wr1 (a b : Nat) (l h : Int) (es : List (Nat × Nat × Int × Int)) : Bool := (zk_all (fun e => (zk_or ((Nat.succ b).ble e.1) (zk_or (e.2.1.ble a) (zk_an (fz_le e.2.2.1 l) (fz_le h e.2.2.2))))) es)
theorem fz_wr1_eq : @fz_wr1 = fun a b l h es => es.all (fun e => (b + 1).ble e.1 || e.2.1.ble a || (ab_le e.2.2.1 l && ab_le h e.2.2.2)) := by
  delta fz_wr1
  rw [fz_le_eq, zk_all_eq, zk_or_eq, zk_an_eq]
  simp only [Bool.or_assoc]
def fz_wr (row : ab_RW) (a b : Nat) (l h : Int) : Bool := (zk_all (fun z => (zk_or ((Nat.succ b).ble z.1) (zk_or (z.2.1.ble a) (fz_wr1 a b l h z.2.2)))) row)
theorem fz_wr_eq : @fz_wr = @ab_wr := by
  delta fz_wr ab_wr
  rw [fz_wr1_eq, zk_all_eq, zk_or_eq]
  simp only [Bool.or_assoc]
def fz_wrT (T : ab_RG) (k a b : Nat) (l h : Int) : Bool := (match (zk_get T k) with | some row => fz_wr row a b l h | none => true)
theorem fz_wrT_eq : @fz_wrT = @ab_wrT := by
  delta fz_wrT ab_wrT
  rw [fz_wr_eq, zk_get_eq]
  first | done | rfl
def fz_box (l h : Int) : ab_RS := cond (fz_le (-2147483648) l && fz_le h 2147483647) (.inr (l, h, [])) ab_full
theorem fz_box_eq : @fz_box = @ab_box := by
  delta fz_box ab_box
  rw [fz_le_eq]
  first | done | rfl
def fz_opA (B : ab_BD) (s : Nat) (c : Int) (t : Nat) (d : Int) : ab_RS :=
  cond (t.beq 0) (.inl (s, c + d)) (cond (s.beq 0) (.inl (t, c + d))
    (cond (fz_in B s c && fz_in B t d) (fz_box (fz_lo B s + c + (fz_lo B t + d)) (fz_hi B s + c + (fz_hi B t + d))) ab_full))
theorem fz_opA_eq : @fz_opA = @ab_opA := by
  delta fz_opA ab_opA
  rw [fz_in_eq, fz_box_eq, fz_lo_eq, fz_hi_eq]
  first | done | rfl
def fz_opS (B : ab_BD) (F : ab_FT) (s : Nat) (c : Int) (t : Nat) (d : Int) : ab_RS :=
  cond (s.beq t) (.inl (0, c - d)) (cond (t.beq 0) (.inl (s, c - d))
    (cond (fz_in B s c && fz_in B t d) (fz_box (c - d - fz_ub B F t s) (fz_ub B F s t + c - d)) ab_full))
theorem fz_opS_eq : @fz_opS = @ab_opS := by
  delta fz_opS ab_opS
  rw [fz_in_eq, fz_box_eq, fz_ub_eq]
  first | done | rfl
def fz_opM (B : ab_BD) (s : Nat) (c : Int) (t : Nat) (d : Int) : ab_RS :=
  cond (fz_in B s c && fz_in B t d)
    (cond (s.beq 0 && fz_le 0 c) (fz_box (c * (fz_lo B t + d)) (c * (fz_hi B t + d)))
      (cond (t.beq 0 && fz_le 0 d) (fz_box (d * (fz_lo B s + c)) (d * (fz_hi B s + c)))
        (cond (fz_le 0 (fz_lo B s + c) && fz_le 0 (fz_lo B t + d)) (fz_box ((fz_lo B s + c) * (fz_lo B t + d)) ((fz_hi B s + c) * (fz_hi B t + d))) ab_full)))
    ab_full
theorem fz_opM_eq : @fz_opM = @ab_opM := by
  delta fz_opM ab_opM
  rw [fz_in_eq, fz_le_eq, fz_box_eq, fz_lo_eq, fz_hi_eq]
  first | done | rfl
def fz_nz (B : ab_BD) (t : Nat) (d : Int) : Bool := fz_in B t d && (fz_le 1 (fz_lo B t + d) || fz_le (fz_hi B t + d) (-1))
theorem fz_nz_eq : @fz_nz = @ab_nz := by
  delta fz_nz ab_nz
  rw [fz_in_eq, fz_le_eq, fz_lo_eq, fz_hi_eq]
  first | done | rfl
def fz_opD (B : ab_BD) (s : Nat) (c : Int) (t : Nat) (d : Int) : ab_RS :=
  cond (fz_in B s c && fz_in B t d && fz_le 1 (fz_lo B t + d) && fz_le 0 (fz_lo B s + c)) (.inr (0, fz_hi B s + c, [])) ab_full
theorem fz_opD_eq : @fz_opD = @ab_opD := by
  delta fz_opD ab_opD
  rw [fz_in_eq, fz_le_eq, fz_lo_eq, fz_hi_eq]
  first | done | rfl
def fz_opR (B : ab_BD) (s : Nat) (c : Int) (t : Nat) (d : Int) : ab_RS :=
  cond (fz_in B s c && fz_in B t d && fz_le 1 (fz_lo B t + d))
    (cond (fz_le 0 (fz_lo B s + c)) (.inr (0, fz_min (fz_hi B s + c) (fz_hi B t + d - 1), [(t, d - 1)])) (.inr (-(fz_hi B t + d - 1), fz_hi B t + d - 1, [(t, d - 1)])))
    ab_full
theorem fz_opR_eq : @fz_opR = @ab_opR := by
  delta fz_opR ab_opR
  rw [fz_in_eq, fz_le_eq, fz_lo_eq, fz_min_eq, fz_hi_eq]
  first | done | rfl
def fz_opL (B : ab_BD) (s : Nat) (c : Int) (t : Nat) (d : Int) : ab_RS :=
  cond (s.beq 0 && fz_le 1 c && fz_le c 1 && fz_le 0 (fz_lo B t + d) && fz_le (fz_hi B t + d) 30) (.inr ((2 : Int) ^ (fz_lo B t + d).toNat, (2 : Int) ^ (fz_hi B t + d).toNat, [])) ab_full
theorem fz_opL_eq : @fz_opL = @ab_opL := by
  delta fz_opL ab_opL
  rw [fz_le_eq, fz_lo_eq, fz_hi_eq]
  first | done | rfl
def fz_opU (t : Nat) (d : Int) : ab_RS := cond (t.beq 0 && fz_le 1 d && fz_le d 31) (.inr (0, 2147483647, [])) ab_full
theorem fz_opU_eq : @fz_opU = @ab_opU := by
  delta fz_opU ab_opU
  rw [fz_le_eq]
  first | done | rfl
def fz_opN (B : ab_BD) (s : Nat) (c : Int) (t : Nat) (d : Int) : ab_RS :=
  cond (fz_in B t d && fz_le 0 (fz_lo B t + d))
    (cond (fz_in B s c && fz_le 0 (fz_lo B s + c)) (.inr (0, fz_min (fz_hi B s + c) (fz_hi B t + d), [(t, d), (s, c)])) (.inr (0, fz_hi B t + d, [(t, d)])))
    (cond (fz_in B s c && fz_le 0 (fz_lo B s + c)) (.inr (0, fz_hi B s + c, [(s, c)])) ab_full)
theorem fz_opN_eq : @fz_opN = @ab_opN := by
  delta fz_opN ab_opN
  rw [fz_in_eq, fz_le_eq, fz_lo_eq, fz_min_eq, fz_hi_eq]
  first | done | rfl
def fz_opO (B : ab_BD) (s : Nat) (c : Int) (t : Nat) (d : Int) : ab_RS :=
  cond (fz_in B s c && fz_in B t d && fz_le 0 (fz_lo B s + c) && fz_le 0 (fz_lo B t + d))
    (.inr (fz_max (fz_lo B s + c) (fz_lo B t + d), (2 : Int) ^ (ab_p2 (fz_max (fz_hi B s + c) (fz_hi B t + d)) 31 0) - 1, [])) ab_full
theorem fz_opO_eq : @fz_opO = @ab_opO := by
  delta fz_opO ab_opO
  rw [fz_in_eq, fz_le_eq, fz_lo_eq, fz_max_eq, fz_hi_eq]
  first | done | rfl
def fz_nm (B : ab_BD) (r : ab_RS) : ab_RS := match r with
  | .inl q => cond (fz_in B q.1 q.2) (.inl q) ab_full
  | .inr q => .inr q
theorem fz_nm_eq : @fz_nm = @ab_nm := by
  delta fz_nm ab_nm
  rw [fz_in_eq]
  first | done | rfl
def fz_op (o : Nat) (B : ab_BD) (F : ab_FT) (s : Nat) (c : Int) (t : Nat) (d : Int) : ab_RS :=
  fz_nm B <| cond (s.beq 0 && t.beq 0) (.inl (0, (ab_sem o (Int32.ofInt c) (Int32.ofInt d)).toInt))
    (match o with
      | 0 => fz_opA B s c t d
      | 1 => fz_opS B F s c t d
      | 2 => fz_opM B s c t d
      | 3 => fz_opD B s c t d
      | 4 => fz_opR B s c t d
      | 5 => fz_opL B s c t d
      | 7 => fz_opU t d
      | 8 => fz_opN B s c t d
      | 9 => fz_opO B s c t d
      | _ => ab_full)
theorem fz_op_eq : @fz_op = @ab_op := by
  delta fz_op ab_op
  rw [fz_nm_eq, fz_opA_eq, fz_opS_eq, fz_opM_eq, fz_opD_eq, fz_opR_eq, fz_opL_eq, fz_opU_eq, fz_opN_eq, fz_opO_eq]
  first | done | rfl
def fz_lbox (l h : Int) : ab_RS := cond (fz_le (-9223372036854775808) l && fz_le h 9223372036854775807) (.inr (l, h, [])) ab_lfull
theorem fz_lbox_eq : @fz_lbox = @ab_lbox := by
  delta fz_lbox ab_lbox
  rw [fz_le_eq]
  first | done | rfl
def fz_lopA (B : ab_BD) (s : Nat) (c : Int) (t : Nat) (d : Int) : ab_RS :=
  cond (t.beq 0) (.inl (s, c + d)) (cond (s.beq 0) (.inl (t, c + d))
    (cond (fz_inL B s c && fz_inL B t d) (fz_lbox (fz_lo B s + c + (fz_lo B t + d)) (fz_hi B s + c + (fz_hi B t + d))) ab_lfull))
theorem fz_lopA_eq : @fz_lopA = @ab_lopA := by
  delta fz_lopA ab_lopA
  rw [fz_inL_eq, fz_lbox_eq, fz_lo_eq, fz_hi_eq]
  first | done | rfl
def fz_lopS (B : ab_BD) (F : ab_FT) (s : Nat) (c : Int) (t : Nat) (d : Int) : ab_RS :=
  cond (s.beq t) (.inl (0, c - d)) (cond (t.beq 0) (.inl (s, c - d))
    (cond (fz_inL B s c && fz_inL B t d) (fz_lbox (c - d - fz_ub B F t s) (fz_ub B F s t + c - d)) ab_lfull))
theorem fz_lopS_eq : @fz_lopS = @ab_lopS := by
  delta fz_lopS ab_lopS
  rw [fz_inL_eq, fz_lbox_eq, fz_ub_eq]
  first | done | rfl
def fz_lopM (B : ab_BD) (s : Nat) (c : Int) (t : Nat) (d : Int) : ab_RS :=
  cond (fz_inL B s c && fz_inL B t d)
    (cond (s.beq 0 && fz_le 0 c) (fz_lbox (c * (fz_lo B t + d)) (c * (fz_hi B t + d)))
      (cond (t.beq 0 && fz_le 0 d) (fz_lbox (d * (fz_lo B s + c)) (d * (fz_hi B s + c)))
        (cond (fz_le 0 (fz_lo B s + c) && fz_le 0 (fz_lo B t + d)) (fz_lbox ((fz_lo B s + c) * (fz_lo B t + d)) ((fz_hi B s + c) * (fz_hi B t + d))) ab_lfull)))
    ab_lfull
theorem fz_lopM_eq : @fz_lopM = @ab_lopM := by
  delta fz_lopM ab_lopM
  rw [fz_inL_eq, fz_le_eq, fz_lbox_eq, fz_lo_eq, fz_hi_eq]
  first | done | rfl
def fz_lopR (B : ab_BD) (s : Nat) (c : Int) (t : Nat) (d : Int) : ab_RS :=
  cond (fz_inL B s c && fz_inL B t d && fz_le 1 (fz_lo B t + d))
    (cond (fz_le 0 (fz_lo B s + c)) (.inr (0, fz_min (fz_hi B s + c) (fz_hi B t + d - 1), [(t, d - 1)])) (.inr (-(fz_hi B t + d - 1), fz_hi B t + d - 1, [(t, d - 1)])))
    ab_lfull
theorem fz_lopR_eq : @fz_lopR = @ab_lopR := by
  delta fz_lopR ab_lopR
  rw [fz_inL_eq, fz_le_eq, fz_lo_eq, fz_min_eq, fz_hi_eq]
  first | done | rfl
def fz_lopD (B : ab_BD) (s : Nat) (c : Int) (t : Nat) (d : Int) : ab_RS :=
  cond (fz_inL B s c && fz_inL B t d && fz_le 1 (fz_lo B t + d) && fz_le 0 (fz_lo B s + c))
    (cond (t.beq 0) (.inr ((fz_lo B s + c) / d, (fz_hi B s + c) / d, [])) (.inr (0, fz_hi B s + c, []))) ab_lfull
theorem fz_lopD_eq : @fz_lopD = @ab_lopD := by
  delta fz_lopD ab_lopD
  rw [fz_inL_eq, fz_le_eq, fz_lo_eq, fz_hi_eq]
  first | done | rfl
def fz_lnz (B : ab_BD) (t : Nat) (d : Int) : Bool := fz_inL B t d && (fz_le 1 (fz_lo B t + d) || fz_le (fz_hi B t + d) (-1))
theorem fz_lnz_eq : @fz_lnz = @ab_lnz := by
  delta fz_lnz ab_lnz
  rw [fz_inL_eq, fz_le_eq, fz_lo_eq, fz_hi_eq]
  first | done | rfl
def fz_lnm (B : ab_BD) (r : ab_RS) : ab_RS := match r with
  | .inl q => cond (fz_inL B q.1 q.2) (.inl q) ab_lfull
  | .inr q => .inr q
theorem fz_lnm_eq : @fz_lnm = @ab_lnm := by
  delta fz_lnm ab_lnm
  rw [fz_inL_eq]
  first | done | rfl
def fz_lop (o : Nat) (B : ab_BD) (F : ab_FT) (s : Nat) (c : Int) (t : Nat) (d : Int) : ab_RS :=
  fz_lnm B <| cond (s.beq 0 && t.beq 0) (.inl (0, (ab_lsem o (Int64.ofInt c) (Int64.ofInt d)).toInt))
    (match o with
      | 0 => fz_lopA B s c t d
      | 1 => fz_lopS B F s c t d
      | 2 => fz_lopM B s c t d
      | 3 => fz_lopD B s c t d
      | 4 => fz_lopR B s c t d
      | _ => ab_lfull)
theorem fz_lop_eq : @fz_lop = @ab_lop := by
  delta fz_lop ab_lop
  rw [fz_lnm_eq, fz_lopA_eq, fz_lopS_eq, fz_lopM_eq, fz_lopD_eq, fz_lopR_eq]
  first | done | rfl
def fz_lk (l : ab_LS) (i : Nat) : Option ab_AV := (List.rec (motive := fun _ => Option ab_AV) none (fun q _ ih => (zk_if (q.1.beq i) (some q.2) ih)) l)
theorem fz_lk_eq : @fz_lk = @ab_lk := by
  funext l i
  induction l with
  | nil => rfl
  | cons q l ih =>
    have e : fz_lk (q :: l) i = zk_if (q.1.beq i) (some q.2) (fz_lk l i) := rfl
    rw [e, ih, zk_if_eq]; rfl
def fz_st1 (L : ab_LS) (i : Nat) (a : ab_AV) : ab_LS := (i, a) :: (zk_flt (fun q => (zk_if (q.1.beq i) false (zk_if ((Nat.succ q.1).beq i) (zk_nt (q.2.1.beq 1)) true))) L)
theorem fz_st1_eq : @fz_st1 = @ab_st1 := by
  funext L i a
  delta fz_st1 ab_st1
  rw [zk_flt_eq, zk_if_eq, zk_nt_eq]
  refine congrArg (fun f => (i, a) :: List.filter f L) (funext fun q => ?_)
  rw [zk_beq, zk_beq, zk_beq]
  show cond (q.1.beq i) false (cond ((q.1 + 1).beq i) (!(q.2.1.beq 1)) true) = _
  cases q.1.beq i <;> cases (q.1 + 1).beq i <;> cases q.2.1.beq 1 <;> rfl
def fz_st2 (L : ab_LS) (i : Nat) (a : ab_AV) : ab_LS := (i, a) :: (zk_flt (fun q => (zk_if (q.1.beq i) false (zk_if (q.1.beq (Nat.succ i)) false (zk_if ((Nat.succ q.1).beq i) (zk_nt (q.2.1.beq 1)) true)))) L)
theorem fz_st2_eq : @fz_st2 = @ab_st2 := by
  funext L i a
  delta fz_st2 ab_st2
  rw [zk_flt_eq, zk_if_eq, zk_nt_eq]
  refine congrArg (fun f => (i, a) :: List.filter f L) (funext fun q => ?_)
  rw [zk_beq, zk_beq, zk_beq, zk_beq]
  show cond (q.1.beq i) false (cond (q.1.beq (i + 1)) false (cond ((q.1 + 1).beq i) (!(q.2.1.beq 1)) true)) = _
  cases q.1.beq i <;> cases q.1.beq (i + 1) <;> cases (q.1 + 1).beq i <;> cases q.2.1.beq 1 <;> rfl
def fz_kc (l : (List (Nat × Int))) (i : Nat) : Option Int := (List.rec (motive := fun _ => Option Int) none (fun q _ ih => (zk_if (q.1.beq i) (some q.2) ih)) l)
theorem fz_kc_eq : @fz_kc = @ab_kc := by
  funext l i
  induction l with
  | nil => rfl
  | cons q l ih =>
    have e : fz_kc (q :: l) i = zk_if (q.1.beq i) (some q.2) (fz_kc l i) := rfl
    rw [e, ih, zk_if_eq]; rfl
def fz_ld (f : ab_AV → Bool) (L : ab_LS) (i : Nat) (S : List ab_AV) (B : ab_BD) (F : ab_FT) : Option ab_PU := match fz_lk L i with
  | some a => cond (f a) (some (L, a :: S, B, F)) none
  | none => none
theorem fz_ld_eq : @fz_ld = @ab_ld := by
  delta fz_ld ab_ld
  rw [fz_lk_eq]
  first | done | rfl
def fz_pu (KI KJ : List (Nat × Int)) (nL : Nat) (i : Instr) (len : Nat) (L : ab_LS) (S : List ab_AV) (B : ab_BD) (F : ab_FT) : Option ab_PU := match i with
  | .iconst n => cond (len.beq 1) (some (L, (0, 0, n) :: S, B, F)) none
  | .bipush n => cond (len.beq 2) (some (L, (0, 0, ((Int8.ofInt n).toInt32).toInt) :: S, B, F)) none
  | .sipush n => cond (len.beq 3) (some (L, (0, 0, ((Int16.ofInt n).toInt32).toInt) :: S, B, F)) none
  | .lconst n => cond (len.beq 1) (some (L, (1, 0, ((n : Nat) : Int)) :: S, B, F)) none
  | .aconst_null => cond (len.beq 1) (some (L, (3, 0, 0) :: S, B, F)) none
  | .ldc x => cond (len.beq 2) (match fz_kc KI x with | some v => some (L, (0, 0, v) :: S, B, F) | none => none) none
  | .ldc_w x => cond (len.beq 3) (match fz_kc KI x with | some v => some (L, (0, 0, v) :: S, B, F) | none => none) none
  | .ldc2_w x => cond (len.beq 3) (match fz_kc KJ x with | some v => some (L, (1, 0, v) :: S, B, F) | none => none) none
  | .iload_n k => cond (len.beq 1) (fz_ld (fun a => a.1.beq 0) L k S B F) none
  | .iload k => cond (len.beq 2) (fz_ld (fun a => a.1.beq 0) L k S B F) none
  | .lload_n k => cond (len.beq 1) (fz_ld (fun a => a.1.beq 1) L k S B F) none
  | .lload k => cond (len.beq 2) (fz_ld (fun a => a.1.beq 1) L k S B F) none
  | .aload_n k => cond (len.beq 1) (fz_ld (fun a => (2 : Nat).ble a.1) L k S B F) none
  | .aload k => cond (len.beq 2) (fz_ld (fun a => (2 : Nat).ble a.1) L k S B F) none
  | .istore_n k => match S with
    | (0, s, c) :: S => cond (len.beq 1 && (k + 1 : Nat).ble nL) (some (fz_st1 L k (0, s, c), S, B, F)) none
    | _ => none
  | .istore k => match S with
    | (0, s, c) :: S => cond (len.beq 2 && (k + 1).ble nL) (some (fz_st1 L k (0, s, c), S, B, F)) none
    | _ => none
  | .lstore_n k => match S with
    | (1, s, c) :: S => cond (len.beq 1 && (k + 2 : Nat).ble nL) (some (fz_st2 L k (1, s, c), S, B, F)) none
    | _ => none
  | .lstore k => match S with
    | (1, s, c) :: S => cond (len.beq 2 && (k + 2).ble nL) (some (fz_st2 L k (1, s, c), S, B, F)) none
    | _ => none
  | .astore_n k => match S with
    | a :: S => cond (len.beq 1 && (k + 1 : Nat).ble nL && (2 : Nat).ble a.1) (some (fz_st1 L k a, S, B, F)) none
    | _ => none
  | .astore k => match S with
    | a :: S => cond (len.beq 2 && (k + 1).ble nL && (2 : Nat).ble a.1) (some (fz_st1 L k a, S, B, F)) none
    | _ => none
  | .dup => match S with
    | a :: S => cond (len.beq 1 && !(a.1.beq 1)) (some (L, a :: a :: S, B, F)) none
    | _ => none
  | .dup2 => match S with
    | a :: b :: S => cond (len.beq 1 && !(a.1.beq 1) && !(b.1.beq 1)) (some (L, a :: b :: a :: b :: S, B, F)) none
    | _ => none
  | .pop => match S with
    | a :: S => cond (len.beq 1 && !(a.1.beq 1)) (some (L, S, B, F)) none
    | _ => none
  | .iinc k n => match fz_lk L k with
    | some (0, s, c) => cond (len.beq 3 && (k + 1).ble nL) (some (cond (fz_in B s (c + n)) (fz_st1 L k (0, s, c + n), S, B, F) (fz_st1 L k (0, B.length, 0), S, B ++ [(-2147483648, 2147483647)], F))) none
    | _ => none
  | .ineg => match S with
    | (0, s, c) :: S => cond (len.beq 1) (some (cond (s.beq 0) (L, (0, 0, -c) :: S, B, F) (ab_ri 0 ab_full L S B F))) none
    | _ => none
  | .lneg => match S with
    | (1, s, c) :: S => cond (len.beq 1) (some (cond (s.beq 0) (L, (1, 0, -c) :: S, B, F) (ab_ri 1 ab_lfull L S B F))) none
    | _ => none
  | .lushr => match S with
    | (0, _, _) :: (1, _, _) :: S => cond (len.beq 1) (some (ab_ri 1 ab_lfull L S B F)) none
    | _ => none
  | .i2l => match S with
    | (0, s, c) :: S => cond (len.beq 1) (some (cond (fz_in B s c) (L, (1, s, c) :: S, B, F) (ab_ri 1 ab_full L S B F))) none
    | _ => none
  | .l2i => match S with
    | (1, s, c) :: S => cond (len.beq 1) (some (cond (fz_inL B s c && fz_in B s c) (L, (0, s, c) :: S, B, F) (ab_ri 0 ab_full L S B F))) none
    | _ => none
  | .i2b => match S with
    | (0, _, _) :: S => cond (len.beq 1) (some (ab_ri 0 (.inr (-128, 127, [])) L S B F)) none
    | _ => none
  | i => match ab_bo i, S with
    | some o, (0, t, d) :: (0, s, c) :: S => cond (len.beq 1 && (!(o.beq 3 || o.beq 4) || fz_nz B t d)) (some (ab_ri 0 (fz_op o B F s c t d) L S B F)) none
    | _, _ => match ab_bl i, S with
      | some o, (1, t, d) :: (1, s, c) :: S => cond (len.beq 1 && (!(o.beq 3 || o.beq 4) || fz_lnz B t d)) (some (ab_ri 1 (fz_lop o B F s c t d) L S B F)) none
      | _, _ => none
theorem fz_pu_eq : @fz_pu = @ab_pu := by
  delta fz_pu ab_pu
  rw [fz_kc_eq, fz_ld_eq, fz_st1_eq, fz_st2_eq, fz_lk_eq, fz_in_eq, fz_inL_eq, fz_nz_eq, fz_op_eq, fz_lnz_eq, fz_lop_eq]
  first | done | rfl
def fz_asE (B : ab_BD) (F : ab_FT) (s t : Nat) (k : Int) : List (ab_BD × ab_FT) := match fz_asm B F s t k with
  | some q => ab_ol (fz_asm q.1 q.2 t s (-k))
  | none => []
theorem fz_asE_eq : @fz_asE = @ab_asE := by
  delta fz_asE ab_asE
  rw [fz_asm_eq]
  first | done | rfl
def fz_as (sp : Bool) (B : ab_BD) (F : ab_FT) (r s : Nat) (c : Int) (t : Nat) (d : Int) : List (ab_BD × ab_FT) := match r with
  | 0 => fz_asE B F s t (d - c)
  | 1 => cond (fz_le (fz_ub B F s t) (d - c)) (ab_ol (fz_asm B F s t (d - c - 1)))
      (cond (fz_le (fz_ub B F t s) (c - d)) (ab_ol (fz_asm B F t s (c - d - 1)))
        (cond sp (ab_ol (fz_asm B F s t (d - c - 1)) ++ ab_ol (fz_asm B F t s (c - d - 1))) [(B, F)]))
  | 2 => ab_ol (fz_asm B F s t (d - c - 1))
  | 3 => ab_ol (fz_asm B F t s (c - d))
  | 4 => ab_ol (fz_asm B F t s (c - d - 1))
  | _ => ab_ol (fz_asm B F s t (d - c))
theorem fz_as_eq : @fz_as = @ab_as := by
  delta fz_as ab_as
  rw [fz_asE_eq, fz_le_eq, fz_ub_eq, fz_asm_eq]
  first | done | rfl
def fz_two (sp : Bool) (r : Nat) (tt tf : Nat) (S : List ab_AV) (B : ab_BD) (F : ab_FT) (s : Nat) (c : Int) (t : Nat) (d : Int) (ok : Bool) : List ab_SU :=
  cond ok (ab_put tt S (fz_as sp B F r s c t d) ++ ab_put tf S (fz_as sp B F (ab_neg r) s c t d)) [(tt, S, B, F), (tf, S, B, F)]
theorem fz_two_eq : @fz_two = @ab_two := by
  delta fz_two ab_two
  rw [fz_as_eq]
  first | done | rfl
def fz_br (sp : Bool) (pc : Nat) (i : Instr) (len : Nat) (nx : Option (Instr × Nat)) (S : List ab_AV) (B : ab_BD) (F : ab_FT) : Option (List ab_SU) := match i with
  | .goto o => cond (len.beq 3) (match ab_tg pc o with | some n => some [(n, S, B, F)] | none => none) none
  | .lcmp => match S, nx with
    | (1, t, d) :: (1, s, c) :: S, some (j, 3) => match ab_iz j with
      | some (r, o) => match ab_tg (pc + 1) o with
        | some n => cond (len.beq 1) (some (fz_two sp r n (pc + 1 + 3) S B F s c t d (fz_inL B s c && fz_inL B t d))) none
        | none => none
      | none => none
    | _, _ => none
  | .ifnull o => match S with
    | a :: S => match ab_tg pc o with
      | some n => cond (len.beq 3) (match a.1 with
        | 2 => some [(pc + 3, S, B, F)]
        | 3 => some [(n, S, B, F)]
        | 4 => some [(n, S, B, F), (pc + 3, S, B, F)]
        | 5 => some [(pc + 3, S, B, F)]
        | _ => none) none
      | none => none
    | _ => none
  | .ifnonnull o => match S with
    | a :: S => match ab_tg pc o with
      | some n => cond (len.beq 3) (match a.1 with
        | 2 => some [(n, S, B, F)]
        | 3 => some [(pc + 3, S, B, F)]
        | 4 => some [(n, S, B, F), (pc + 3, S, B, F)]
        | 5 => some [(n, S, B, F)]
        | _ => none) none
      | none => none
    | _ => none
  | .if_acmp _ o => match S with
    | a :: b :: S => match ab_tg pc o with
      | some n => cond (len.beq 3 && (2 : Nat).ble a.1 && (2 : Nat).ble b.1) (some [(n, S, B, F), (pc + 3, S, B, F)]) none
      | none => none
    | _ => none
  | .tableswitch dflt lo hi offs => match S with
    | (0, s, c) :: S => match ab_tg pc dflt, ab_tab sp pc S B F s c offs.toList lo with
      | some n, some l => cond (fz_in B s c && fz_le (hi - lo + 1) (offs.size : Int) && fz_le (offs.size : Int) (hi - lo + 1)) (some (ab_put n S (fz_as sp B F 2 s c 0 lo ++ fz_as sp B F 4 s c 0 hi) ++ l)) none
      | _, _ => none
    | _ => none
  | i => match ab_ic i, S with
    | some (r, o), (0, t, d) :: (0, s, c) :: S => match ab_tg pc o with
      | some n => cond (len.beq 3) (some (fz_two sp r n (pc + 3) S B F s c t d (fz_in B s c && fz_in B t d))) none
      | none => none
    | _, _ => match ab_iz i, S with
      | some (r, o), (0, s, c) :: S => match ab_tg pc o with
        | some n => cond (len.beq 3) (some (fz_two sp r n (pc + 3) S B F s c 0 0 (fz_in B s c))) none
        | none => none
      | _, _ => none
theorem fz_br_eq : @fz_br = @ab_br := by
  delta fz_br ab_br
  rw [fz_two_eq, fz_inL_eq, fz_in_eq, fz_le_eq, fz_as_eq]
  first | done | rfl
def fz_dk (l : ab_DL) (k j : Nat) : Option (Nat × Int) := (List.rec (motive := fun _ => Option (Nat × Int)) none (fun d _ ih => (zk_if (d.1.2.beq j) (zk_if (d.1.1.beq k) (some d.2) ih) ih)) l)
theorem fz_dk_eq : @fz_dk = @ab_dk := by
  funext l k j
  induction l with
  | nil => rfl
  | cons d l ih =>
    have e : fz_dk (d :: l) k j = zk_if (d.1.2.beq j) (zk_if (d.1.1.beq k) (some d.2) (fz_dk l k j)) (fz_dk l k j) := rfl
    rw [e, ih, zk_if_eq]
    show _ = cond (d.1.1.beq k && d.1.2.beq j) (some d.2) (ab_dk l k j)
    cases d.1.1.beq k <;> cases d.1.2.beq j <;> rfl
def fz_get (T : ab_RG) (k a b ix : Nat) (B : ab_BD) (Dl : ab_DL) : Option ((Nat × Int) × ab_BD × ab_DL) := (zk_if (zk_an (a.beq b) (a.ble 1999999)) (match (fz_dk Dl k a) with | some q => some (q, B, Dl) | none => (match (fz_rdT T k a a) with | some r => some ((zk_len B, 0), zk_app B [r], ((k, a), (zk_len B, 0)) :: Dl) | none => none)) (match (zk_if ((2000000 : Nat).ble ix) (fz_dk Dl k ix) none) with | some q => some (q, B, Dl) | none => (match (fz_rdT T k a b) with | some r => some ((zk_len B, 0), zk_app B [r], (zk_if ((2000000 : Nat).ble ix) (((k, ix), (zk_len B, 0)) :: Dl) Dl)) | none => none)))
theorem fz_get_eq : @fz_get = @ab_get := by
  delta fz_get ab_get
  rw [fz_dk_eq, fz_rdT_eq, zk_if_eq, zk_an_eq, zk_len_eq, zk_app_eq]
  first | done | rfl
def fz_pd (Dl : ab_DL) (p : Nat × Nat) : Option (Nat × Int) := Prod.rec (motive := fun _ => Option (Nat × Int)) (fun k j => (zk_if (k.beq 1000) (some (0, 0)) (zk_if (j.ble 1999999) (fz_dk Dl k j) none))) p
theorem fz_pd_eq : @fz_pd = @ab_pd := by
  funext Dl p
  delta fz_pd
  rw [fz_dk_eq, zk_if_eq]
  obtain ⟨k, j⟩ := p
  rfl
def fz_atk (B : ab_BD) (F : ab_FT) (Dl : ab_DL) (a : ab_AT) : Bool := (match (fz_pd Dl a.1) with | some s => (match (fz_pd Dl a.2.1) with | some t => fz_le (zk_sub (zk_add (fz_ub B F s.1 t.1) s.2) t.2) a.2.2 | none => false) | none => false)
theorem fz_atk_eq : @fz_atk = @ab_atk := by
  funext B F Dl a
  delta fz_atk ab_atk
  rw [fz_pd_eq, fz_le_eq, fz_ub_eq, zk_sub_eq, zk_add_eq]
  dsimp only
  cases ab_pd Dl a.1 <;> cases ab_pd Dl a.2.1 <;> rfl
def fz_tc (k a b : Nat) (p : Nat × Nat) : Bool := (zk_an (p.1.beq k) (zk_an (a.ble p.2) (p.2.ble b)))
theorem fz_tc_eq : @fz_tc = @ab_tc := by
  delta fz_tc ab_tc
  rw [zk_an_eq]
  simp only [Bool.and_assoc]
def fz_au (k a b : Nat) (sh : Option Int) (x : ab_AT) : Bool := (zk_if (fz_tc k a b x.1) (zk_if (fz_tc k a b x.2.1) (match sh with | some _ => true | none => false) (match sh with | some d => fz_le d 0 | none => false)) (zk_if (fz_tc k a b x.2.1) (match sh with | some d => fz_le 0 d | none => false) true))
theorem fz_au_eq : @fz_au = @ab_au := by
  funext k a b sh x
  delta fz_au ab_au
  rw [fz_tc_eq, fz_le_eq, zk_if_eq]
  dsimp only
  cases ab_tc k a b x.1 <;> cases ab_tc k a b x.2.1 <;> cases sh <;> rfl
def fz_an (B : ab_BD) (F : ab_FT) (Dl : ab_DL) (a : ab_AT) : Bool := (match (fz_pd Dl a.1) with | some s => (match (fz_pd Dl a.2.1) with | some t => fz_le (zk_sub (zk_add (fz_ub B F t.1 s.1) t.2) s.2) (zk_sub (zk_neg a.2.2) 1) | none => false) | none => false)
theorem fz_an_eq : @fz_an = @ab_an := by
  funext B F Dl a
  delta fz_an ab_an
  rw [fz_pd_eq, fz_le_eq, fz_ub_eq, zk_sub_eq, zk_add_eq, zk_neg_eq]
  dsimp only
  cases ab_pd Dl a.1 <;> cases ab_pd Dl a.2.1 <;> rfl
def fz_cw1 (B : ab_BD) (F : ab_FT) (D0 Dl : ab_DL) (k a b : Nat) (sh : Option Int) (qs : List (List ab_AT)) : Bool := (zk_all (fun q => (zk_or (zk_all (fun x => (zk_or (fz_au k a b sh x) (fz_an B F D0 x))) q) (zk_any (fz_atk B F Dl) q))) qs)
theorem fz_cw1_eq : @fz_cw1 = fun B F D0 Dl k a b sh qs => qs.all (fun q => q.all (fun x => ab_au k a b sh x || ab_an B F D0 x) || q.any (ab_atk B F Dl)) := by
  delta fz_cw1
  rw [fz_au_eq, fz_an_eq, fz_atk_eq, zk_all_eq, zk_or_eq, zk_any_eq]
  first | done | rfl
def fz_cw (C : ab_CT) (B : ab_BD) (F : ab_FT) (D0 Dl : ab_DL) (k a b : Nat) (sh : Option Int) : Bool := (match (zk_get C k) with | some row => (zk_all (fun z => (zk_or ((Nat.succ b).ble z.1) (zk_or (z.2.1.ble a) (fz_cw1 B F D0 Dl k a b sh z.2.2)))) row) | none => true)
theorem fz_cw_eq : @fz_cw = @ab_cw := by
  delta fz_cw ab_cw
  rw [fz_cw1_eq, zk_get_eq, zk_all_eq, zk_or_eq]
  simp only [Bool.or_assoc]
  first | done | rfl
def fz_drm (Dl : ab_DL) (k a b : Nat) : ab_DL := (zk_flt (fun d => (zk_if (d.1.1.beq k) (zk_if (a.ble d.1.2) (zk_if (d.1.2.ble b) false (d.1.2.ble 1999999)) (d.1.2.ble 1999999)) true)) Dl)
theorem fz_drm_eq : @fz_drm = @ab_drm := by
  funext Dl k a b
  delta fz_drm ab_drm
  rw [zk_flt_eq, zk_if_eq]
  refine congrArg (fun f => List.filter f Dl) (funext fun d => ?_)
  dsimp only
  cases d.1.1.beq k <;> cases a.ble d.1.2 <;> cases d.1.2.ble b <;> cases d.1.2.ble 1999999 <;> rfl
def fz_shf (Dl : ab_DL) (k a s : Nat) (c : Int) : Option Int := (zk_if (a.ble 1999999) (match (fz_dk Dl k a) with | some q => (zk_if (q.1.beq s) (some (zk_sub c q.2)) none) | none => none) none)
theorem fz_shf_eq : @fz_shf = @ab_shf := by
  delta fz_shf ab_shf
  rw [fz_dk_eq, zk_if_eq, zk_sub_eq]
  first | done | rfl
def fz_set (T : ab_RG) (C : ab_CT) (k a b : Nat) (s : Nat) (c : Int) (B : ab_BD) (F : ab_FT) (Dl : ab_DL) (M : ab_ML) : Option (ab_DL × ab_ML) := (zk_if (zk_an (fz_wrT T k a b (zk_add (fz_lo B s) c) (zk_add (fz_hi B s) c)) (zk_an (b.ble 999999) (zk_nt (k.beq 1000)))) (zk_if (a.beq b) (zk_if (fz_cw C B F Dl (((k, a), (s, c)) :: fz_drm Dl k a a) k a a (fz_shf Dl k a s c)) (some (((k, a), (s, c)) :: fz_drm Dl k a a, (k, a) :: M)) none) (zk_if (fz_cw C B F Dl (fz_drm Dl k a b) k a b none) (some (fz_drm Dl k a b, (k, 1000000) :: M)) none)) none)
theorem fz_set_eq : @fz_set = @ab_set := by
  funext T C k a b s c B F Dl M
  delta fz_set ab_set
  rw [fz_wrT_eq, fz_lo_eq, fz_hi_eq, fz_cw_eq, fz_drm_eq, fz_shf_eq, zk_if_eq, zk_an_eq, zk_add_eq, zk_nt_eq]
  dsimp only
  rw [Bool.and_assoc]
def fz_pf (l : ab_PT) (i : Nat) : Option (Nat × Nat × Nat) := (List.rec (motive := fun _ => Option (Nat × Nat × Nat)) none (fun q _ ih => (zk_if (q.1.beq i) (some q.2) ih)) l)
theorem fz_pf_eq : @fz_pf = @ab_pf := by
  funext l i
  induction l with
  | nil => rfl
  | cons q l ih =>
    have e : fz_pf (q :: l) i = zk_if (q.1.beq i) (some q.2) (fz_pf l i) := rfl
    rw [e, ih, zk_if_eq]; rfl
def fz_ix (B : ab_BD) (s : Nat) (c : Int) (n : Nat) : Option (Nat × Nat) :=
  cond (fz_le 0 (fz_lo B s + c) && fz_le (fz_hi B s + c + 1) n && n.ble 2147483647) (some ((fz_lo B s + c).toNat, (fz_hi B s + c).toNat)) none
theorem fz_ix_eq : @fz_ix = @ab_ix := by
  delta fz_ix ab_ix
  rw [fz_le_eq, fz_lo_eq, fz_hi_eq]
  first | done | rfl
def fz_fit (B : ab_BD) (t s : Nat) (c : Int) : Bool := match t with
  | 2 => fz_le (-128) (fz_lo B s + c) && fz_le (fz_hi B s + c) 127
  | 3 => fz_le 0 (fz_lo B s + c) && fz_le (fz_hi B s + c) 1
  | _ => true
theorem fz_fit_eq : @fz_fit = @ab_fit := by
  delta fz_fit ab_fit
  rw [fz_le_eq, fz_lo_eq, fz_hi_eq]
  first | done | rfl
def fz_cx (k s : Nat) (c : Int) : Nat := cond (k.beq 94 && fz_le 0 c && fz_le c 999) (2000000 + 1000 * s + c.toNat) 0
theorem fz_cx_eq : @fz_cx = @ab_cx := by
  delta fz_cx ab_cx
  rw [fz_le_eq]
  first | done | rfl
def fz_ald (T : ab_RG) (sh : List ab_SP) (t tag len : Nat) (S : List ab_AV) (B : ab_BD) (Dl : ab_DL) (M : ab_ML) : Option ab_HS := match S with
  | (0, s, c) :: (2, k, _) :: S => match ab_arr sh t k with
    | some n => match fz_ix B s c n with
      | some (a, b) => match fz_get T k a b (fz_cx k s c) B Dl with
        | some (q, B', Dl') => cond (len.beq 1) (some ((tag, q.1, q.2) :: S, B', Dl', M)) none
        | none => none
      | none => none
    | none => none
  | _ => none
theorem fz_ald_eq : @fz_ald = @ab_ald := by
  delta fz_ald ab_ald
  rw [fz_ix_eq, fz_get_eq, fz_cx_eq]
  first | done | rfl
def fz_ast (T : ab_RG) (C : ab_CT) (sh : List ab_SP) (t tag len : Nat) (S : List ab_AV) (B : ab_BD) (F : ab_FT) (Dl : ab_DL) (M : ab_ML) : Option ab_HS := match S with
  | (tg, s', c') :: (0, s, c) :: (2, k, _) :: S => match ab_arr sh t k with
    | some n => match fz_ix B s c n with
      | some (a, b) => match fz_set T C k a b s' c' B F Dl M with
        | some (Dl', M') => cond (len.beq 1 && tg.beq tag && fz_fit B t s' c') (some (S, B, Dl', M')) none
        | none => none
      | none => none
    | none => none
  | _ => none
theorem fz_ast_eq : @fz_ast = @ab_ast := by
  delta fz_ast ab_ast
  rw [fz_ix_eq, fz_set_eq, fz_fit_eq]
  first | done | rfl
def fz_hp (cl : List vw_C) (T : ab_RG) (C : ab_CT) (sh : List ab_SP) (PF : ab_PT) (i : Instr) (len : Nat) (S : List ab_AV) (B : ab_BD) (F : ab_FT) (Dl : ab_DL) (M : ab_ML) : Option ab_HS := match i with
  | .getfield x => match S with
    | (2, k, _) :: S => match fz_pf PF x, sh[k]? with
      | some (ci, j, _), some (.inl (cj, fs)) => match fs[j]? with
        | some f => cond (len.beq 3 && ci.beq cj) (match f.1 with
          | 2 => some ((2, f.2, 0) :: S, B, Dl, M)
          | 3 => some ((3, 0, 0) :: S, B, Dl, M)
          | t => match fz_get T k j j 0 B Dl with
            | some (q, B', Dl') => some ((Nat.min t 4, q.1, q.2) :: S, B', Dl', M)
            | none => none) none
        | none => none
      | _, _ => none
    | _ => none
  | .putfield x => match S with
    | v :: (2, k, _) :: S => match fz_pf PF x, sh[k]? with
      | some (ci, j, ty), some (.inl (cj, fs)) => match fs[j]? with
        | some f => match fz_set T C k j j (ab_nw v).2.1 (ab_nw v).2.2 B F Dl M with
          | some (Dl', M') => cond (len.beq 3 && ci.beq cj && ab_fin cl ci j && ((f.1.beq 0 && (ab_nw v).1.beq 0 && (ty.beq 0 || ty.beq 3) && fz_fit B ty (ab_nw v).2.1 (ab_nw v).2.2) || (f.1.beq 1 && (ab_nw v).1.beq 1 && ty.beq 1) || (f.1.beq 4 && (ab_nw v).1.beq 4 && ty.beq 4))) (some (S, B, Dl', M')) none
          | none => none
        | none => none
      | _, _ => none
    | _ => none
  | .iaload => fz_ald T sh 0 0 len S B Dl M
  | .laload => fz_ald T sh 1 1 len S B Dl M
  | .baload => match fz_ald T sh 2 0 len S B Dl M with
    | some r => some r
    | none => fz_ald T sh 3 0 len S B Dl M
  | .iastore => fz_ast T C sh 0 0 len S B F Dl M
  | .lastore => fz_ast T C sh 1 1 len S B F Dl M
  | .bastore => match fz_ast T C sh 2 0 len S B F Dl M with
    | some r => some r
    | none => fz_ast T C sh 3 0 len S B F Dl M
  | .arraylength => match S with
    | (2, k, _) :: S => match sh[k]? with
      | some (.inr a) => cond (len.beq 1 && a.1.ble 3) (some ((0, 0, (a.2 : Int)) :: S, B, Dl, M)) none
      | _ => none
    | _ => none
  | _ => none
theorem fz_hp_eq : @fz_hp = @ab_hp := by
  delta fz_hp ab_hp
  rw [fz_pf_eq, fz_get_eq, fz_set_eq, fz_fit_eq, fz_ald_eq, fz_ast_eq]
  first | done | rfl
def fz_pk (l : ab_PS) (i : Nat) : Option Nat := (List.rec (motive := fun _ => Option Nat) none (fun q _ ih => (zk_if (q.1.beq i) (some q.2) ih)) l)
theorem fz_pk_eq : @fz_pk = @ab_pk := by
  funext l i
  induction l with
  | nil => rfl
  | cons q l ih =>
    have e : fz_pk (q :: l) i = zk_if (q.1.beq i) (some q.2) (fz_pk l i) := rfl
    rw [e, ih, zk_if_eq]; rfl
def fz_ks (kd : ab_KD) (PS : ab_PS) (i : Instr) (len : Nat) (S : List ab_AV) (B : ab_BD) : Option (List ab_AV × ab_BD) := match i with
  | .getstatic x => match fz_pk PS x with
    | some z => match kd.1[z]? with
      | some q => cond (len.beq 3 && ab_is0 q.2.2.2 && z.ble 999) (some (q.2.2.2 :: S, B)) none
      | none => none
    | none => none
  | .iaload => match S with
    | (0, s, c) :: (5, k, _) :: S => match ab_ca kd 0 k with
      | some n => match fz_ix B s c n with
        | some _ => cond (len.beq 1) (some ((0, B.length, 0) :: S, B ++ [(-2147483648, 2147483647)])) none
        | none => none
      | none => none
    | _ => none
  | .laload => match S with
    | (0, s, c) :: (5, k, _) :: S => match ab_ca kd 1 k with
      | some n => match fz_ix B s c n with
        | some _ => cond (len.beq 1) (some ((1, B.length, 0) :: S, B ++ [(-9223372036854775808, 9223372036854775807)])) none
        | none => none
      | none => none
    | _ => none
  | .aaload => match S with
    | (0, s, c) :: (5, k, _) :: S => match ab_ca kd 4 k with
      | some n => match fz_ix B s c n with
        | some _ => cond (len.beq 1) (some ((4, s, c) :: S, B)) none
        | none => none
      | none => none
    | _ => none
  | .arraylength => match S with
    | (5, k, _) :: S => match kd.2.1[k]? with
      | some x => cond (len.beq 1) (some ((0, 0, (x.2 : Int)) :: S, B)) none
      | none => none
    | _ => none
  | .getfield x => match S with
    | (4, s, c) :: S => match fz_pk PS x with
      | some z => cond (len.beq 3 && z.beq 1000 && fz_le 0 (fz_lo B s + c) && fz_le (fz_hi B s + c) 16) (some ((1, B.length, 0) :: S, B ++ [(-9223372036854775808, 9223372036854775807)])) none
      | none => none
    | _ => none
  | .i2c => match S with
    | (0, _, _) :: S => cond (len.beq 1) (some ((0, B.length, 0) :: S, B ++ [(-2147483648, 2147483647)])) none
    | _ => none
  | _ => none
theorem fz_ks_eq : @fz_ks = @ab_ks := by
  delta fz_ks ab_ks
  rw [fz_pk_eq, fz_ix_eq, fz_le_eq, fz_lo_eq, fz_hi_eq]
  first | done | rfl
def fz_mx (a b : Int) : Int := cond (fz_le a b) b a
theorem fz_mx_eq : @fz_mx = @ab_mx := by
  delta fz_mx ab_mx
  rw [fz_le_eq]
  first | done | rfl
def fz_mn (a b : Int) : Int := cond (fz_le a b) a b
theorem fz_mn_eq : @fz_mn = @ab_mn := by
  delta fz_mn ab_mn
  rw [fz_le_eq]
  first | done | rfl
def fz_mth (z lev pc len : Nat) (S : List ab_AV) (B : ab_BD) (F : ab_FT) : Option (List ab_SU) := match z, S with
  | 1001, (0, t, d) :: (0, s, c) :: S => cond (len.beq 3 && (1 : Nat).ble lev && (ab_cat S).ble 8 && fz_in B s c && fz_in B t d)
      (some [(pc + 3, (0, B.length, 0) :: S, B ++ [(fz_mn (fz_lo B s + c) (fz_lo B t + d), fz_mx (fz_hi B s + c) (fz_hi B t + d))], F)]) none
  | 1002, (0, t, d) :: (0, s, c) :: S => cond (len.beq 3 && (1 : Nat).ble lev && (ab_cat S).ble 8 && fz_in B s c && fz_in B t d)
      (some [(pc + 3, (0, B.length, 0) :: S, B ++ [(fz_mn (fz_lo B s + c) (fz_lo B t + d), fz_mx (fz_hi B s + c) (fz_hi B t + d))], (B.length, s, c) :: (B.length, t, d) :: F)]) none
  | 1003, (1, _, _) :: S => cond (len.beq 3 && (1 : Nat).ble lev && (ab_cat S).ble 8)
      (some [(pc + 3, (1, B.length, 0) :: S, B ++ [(-9223372036854775808, 9223372036854775807)], F)]) none
  | _, _ => none
theorem fz_mth_eq : @fz_mth = @ab_mth := by
  delta fz_mth ab_mth
  rw [fz_in_eq, fz_mn_eq, fz_lo_eq, fz_mx_eq, fz_hi_eq]
  first | done | rfl
def fz_mo (sp : Bool) (PS : ab_PS) (lev pc : Nat) (i : Instr) (len : Nat) (S : List ab_AV) (B : ab_BD) (F : ab_FT) : Option (List ab_SU) := match i with
  | .lookupswitch dflt ps => match S with
    | (0, s, c) :: S => match ab_tg pc dflt, ab_lus sp pc S B F s c ps.toList with
      | some n, some l => cond (fz_in B s c && (ps.toList.zip (ps.toList.drop 1)).all (fun (a, next) => a.1 < next.1)) (some ((n, S, B, F) :: l)) none
      | _, _ => none
    | _ => none
  | .ldc x => match fz_pk PS x with
    | some z => cond (len.beq 2 && (2000 : Nat).ble z) (some [(pc + 2, (5, z - 2000, 0) :: S, B, F)]) none
    | none => none
  | .invokestatic x => match fz_pk PS x with
    | some z => fz_mth z lev pc len S B F
    | none => none
  | _ => none
theorem fz_mo_eq : @fz_mo = @ab_mo := by
  delta fz_mo ab_mo
  rw [fz_in_eq, fz_pk_eq, fz_mth_eq]
  first | done | rfl
def fz_ieq (a b : Int) : Bool := (Int.rec (motive := fun _ => Bool) (fun m => (Int.rec (motive := fun _ => Bool) (fun n => m.beq n) (fun _ => false) b)) (fun m => (Int.rec (motive := fun _ => Bool) (fun _ => false) (fun n => m.beq n) b)) a)
theorem fz_ieq_eq : @fz_ieq = @ab_ieq := by
  funext a b
  rw [Bool.eq_iff_iff]
  have e : ab_ieq a b = true ↔ a = b := by
    unfold ab_ieq
    rw [Bool.and_eq_true, ab_le_iff, ab_le_iff]
    omega
  rw [e]
  cases a with
  | ofNat m => cases b with
    | ofNat n =>
      show m.beq n = true ↔ _
      exact ⟨fun h => (by rw [Nat.eq_of_beq_eq_true h]), fun h => (by cases h; exact Nat.beq_refl m)⟩
    | negSucc n => exact ⟨fun h => (by cases h), fun h => (by cases h)⟩
  | negSucc m => cases b with
    | ofNat n => exact ⟨fun h => (by cases h), fun h => (by cases h)⟩
    | negSucc n =>
      show m.beq n = true ↔ _
      exact ⟨fun h => (by rw [Nat.eq_of_beq_eq_true h]), fun h => (by cases h; exact Nat.beq_refl m)⟩
def fz_eqv1 (θ : ab_TH) (p a : ab_AV) : Bool := (match (zk_get θ p.2.1) with | some q => (zk_an (q.1.beq a.2.1) (fz_ieq (zk_add q.2 p.2.2) a.2.2)) | none => false)
theorem fz_eqv1_eq : @fz_eqv1 = fun θ p a => (match θ[p.2.1]? with | some q => q.1.beq a.2.1 && ab_ieq (q.2 + p.2.2) a.2.2 | none => false) := by
  delta fz_eqv1
  rw [fz_ieq_eq, zk_get_eq, zk_an_eq, zk_add_eq]
  first | done | rfl
def fz_eqv (θ : ab_TH) (p a : ab_AV) : Bool := (zk_an (p.1.beq a.1) (Nat.rec (motive := fun _ => Bool) (fz_eqv1 θ p a) (fun n _ => (Nat.rec (motive := fun _ => Bool) (fz_eqv1 θ p a) (fun n _ => (Nat.rec (motive := fun _ => Bool) (p.2.1.beq a.2.1) (fun n _ => (Nat.rec (motive := fun _ => Bool) true (fun n _ => (Nat.rec (motive := fun _ => Bool) (fz_eqv1 θ p a) (fun _ _ => p.2.1.beq a.2.1) n)) n)) n)) n)) p.1))
theorem fz_eqv_eq : @fz_eqv = @ab_eqv := by
  funext θ p a
  delta fz_eqv ab_eqv
  rw [fz_eqv1_eq, zk_an_eq]
  obtain ⟨t, s, c⟩ := p
  dsimp only
  match t with
  | 0 => rfl
  | 1 => rfl
  | 2 => rfl
  | 3 => rfl
  | 4 => rfl
  | n + 5 => rfl
def fz_eqs (θ : ab_TH) (P S : List ab_AV) : Bool := (List.rec (motive := fun _ => List ab_AV → Bool) (fun S => (List.rec (motive := fun _ => Bool) true (fun _ _ _ => false) S)) (fun p _ ih S => (List.rec (motive := fun _ => Bool) false (fun a S _ => (zk_an (fz_eqv θ p a) (ih S))) S)) P) S
theorem fz_eqs_eq : @fz_eqs = @ab_eqs := by
  funext θ P
  induction P with
  | nil => funext S; cases S <;> rfl
  | cons p P ih =>
    funext S
    cases S with
    | nil => rfl
    | cons a S =>
      have e : fz_eqs θ (p :: P) (a :: S) = zk_an (fz_eqv θ p a) (fz_eqs θ P S) := rfl
      rw [e, congrFun ih S, fz_eqv_eq, zk_an_eq]
      rfl
def fz_vb (B : ab_BD) (θ : ab_TH) (PB : ab_BD) : Bool := (List.rec (motive := fun _ => ab_BD → Bool) (fun PB => (List.rec (motive := fun _ => Bool) true (fun _ _ _ => false) PB)) (fun q _ ih PB => (List.rec (motive := fun _ => Bool) false (fun b PB _ => (zk_an (fz_le b.1 (zk_add (fz_lo B q.1) q.2)) (zk_an (fz_le (zk_add (fz_hi B q.1) q.2) b.2) (ih PB)))) PB)) θ) PB
theorem fz_vb_eq : @fz_vb = @ab_vb := by
  funext B θ
  induction θ with
  | nil => funext PB; cases PB <;> rfl
  | cons q θ ih =>
    funext PB
    cases PB with
    | nil => rfl
    | cons b PB =>
      have e : fz_vb B (q :: θ) (b :: PB) = zk_an (fz_le b.1 (zk_add (fz_lo B q.1) q.2)) (zk_an (fz_le (zk_add (fz_hi B q.1) q.2) b.2) (fz_vb B θ PB)) := rfl
      rw [e, congrFun ih PB, fz_le_eq, fz_lo_eq, fz_hi_eq, zk_an_eq, zk_add_eq]
      dsimp only
      rw [← Bool.and_assoc]
      rfl
def fz_mk (θ : ab_TH) (j : Nat) : Option Nat := (zk_if (j.ble 1999999) (some j) (match (zk_get θ ((j - 2000000) / 1000)) with | some q => cond (fz_le 0 (q.2 + (((j - 2000000) % 1000 : Nat) : Int)) && fz_le (q.2 + (((j - 2000000) % 1000 : Nat) : Int)) 999) (some (2000000 + 1000 * q.1 + (q.2 + (((j - 2000000) % 1000 : Nat) : Int)).toNat)) none | none => none))
theorem fz_mk_eq : @fz_mk = @ab_mk := by
  delta fz_mk ab_mk
  rw [fz_le_eq, zk_if_eq, zk_get_eq]
  first | done | rfl
def fz_vfD (θ : ab_TH) (Dl : ab_DL) (d : (Nat × Nat) × (Nat × Int)) : Bool := (match (fz_mk θ d.1.2) with | some j => (match (fz_dk Dl d.1.1 j) with | some q => (match (zk_get θ d.2.1) with | some t => (zk_an (t.1.beq q.1) (fz_ieq (zk_add t.2 d.2.2) q.2)) | none => false) | none => false) | none => false)
theorem fz_vfD_eq : @fz_vfD = fun θ Dl d => (match ab_mk θ d.1.2 with | some j => (match ab_dk Dl d.1.1 j with | some q => (match θ[d.2.1]? with | some t => t.1.beq q.1 && ab_ieq (t.2 + d.2.2) q.2 | none => false) | none => false) | none => false) := by
  delta fz_vfD
  rw [fz_mk_eq, fz_dk_eq, fz_ieq_eq, zk_get_eq, zk_an_eq, zk_add_eq]
  first | done | rfl
def fz_vfF (θ : ab_TH) (B : ab_BD) (F : ab_FT) (f : Nat × Nat × Int) : Bool := (match (zk_get θ f.1) with | some a => (match (zk_get θ f.2.1) with | some b => fz_le (zk_sub (zk_add (fz_ub B F a.1 b.1) a.2) b.2) f.2.2 | none => false) | none => false)
theorem fz_vfF_eq : @fz_vfF = fun θ B F f => (match θ[f.1]?, θ[f.2.1]? with | some a, some b => ab_le (ab_ub B F a.1 b.1 + a.2 - b.2) f.2.2 | _, _ => false) := by
  funext θ B F f
  delta fz_vfF
  rw [fz_le_eq, fz_ub_eq, zk_get_eq, zk_sub_eq, zk_add_eq]
  dsimp only
  cases θ[f.1]? <;> cases θ[f.2.1]? <;> rfl
def fz_vf (θ : ab_TH) (PL : ab_LS) (PS : List ab_AV) (PB : ab_BD) (PF : ab_FT) (PD : ab_DL) (PM : ab_ML) (L : ab_LS) (S : List ab_AV) (B : ab_BD) (F : ab_FT) (Dl : ab_DL) (M : ab_ML) : Bool := (zk_an (match θ with | q :: _ => (zk_an (q.1.beq 0) (fz_ieq q.2 0)) | [] => false) (zk_an (zk_all (fun q => (match (fz_lk L q.1) with | some a => fz_eqv θ q.2 a | none => false)) PL) (zk_an (fz_eqs θ PS S) (zk_an (fz_vb B θ PB) (zk_an (zk_all (fun d => (fz_vfD θ Dl d)) PD) (zk_an (zk_all (fun q => ((Nat.succ q.1).ble (zk_len B))) θ) (zk_an (zk_all (fun f => (fz_vfF θ B F f)) PF) (zk_all (fun x => (zk_any (fun y => (zk_an (y.1.beq x.1) (zk_or (y.2.beq x.2) (y.2.beq 1000000)))) PM)) M))))))))
theorem fz_vf_eq : @fz_vf = @ab_vf := by
  funext θ PL PS PB PF PD PM L S B F Dl M
  delta fz_vf
  rw [fz_ieq_eq, fz_lk_eq, fz_eqv_eq, fz_eqs_eq, fz_vb_eq, fz_vfD_eq, fz_vfF_eq, zk_an_eq, zk_all_eq, zk_len_eq, zk_any_eq, zk_or_eq]
  dsimp only
  have k : ∀ x1 x2 x3 x4 x5 x6 x7 x8 : Bool, (x1 && (x2 && (x3 && (x6 && (x4 && (x5 && (x7 && x8))))))) = (x5 && x1 && x6 && x2 && x3 && x7 && x4 && x8) := by
    intro x1 x2 x3 x4 x5 x6 x7 x8
    cases x1 <;> cases x2 <;> cases x3 <;> cases x4 <;> cases x5 <;> cases x6 <;> cases x7 <;> rfl
  refine (k _ _ _ _ _ _ _ _).trans ?_
  delta ab_vf
  cases θ <;> rfl
def fz_mt1 (θ : List (Option (Nat × Int))) (p a : ab_AV) : List (Option (Nat × Int)) := (match (zk_get θ p.2.1) with | some o => (match o with | some _ => θ | none => (zk_set θ p.2.1 (some (a.2.1, zk_sub a.2.2 p.2.2)))) | none => θ)
theorem fz_mt1_eq : @fz_mt1 = fun θ p a => (match θ[p.2.1]? with | some none => θ.set p.2.1 (some (a.2.1, a.2.2 - p.2.2)) | _ => θ) := by
  funext θ p a
  delta fz_mt1
  rw [zk_get_eq, zk_set_eq, zk_sub_eq]
  dsimp only
  cases θ[p.2.1]? with
  | none => rfl
  | some o => cases o <;> rfl
def fz_mt (θ : List (Option (Nat × Int))) (p a : ab_AV) : List (Option (Nat × Int)) := (Nat.rec (motive := fun _ => List (Option (Nat × Int))) (fz_mt1 θ p a) (fun n _ => (Nat.rec (motive := fun _ => List (Option (Nat × Int))) (fz_mt1 θ p a) (fun n _ => (Nat.rec (motive := fun _ => List (Option (Nat × Int))) θ (fun n _ => (Nat.rec (motive := fun _ => List (Option (Nat × Int))) θ (fun n _ => (Nat.rec (motive := fun _ => List (Option (Nat × Int))) (fz_mt1 θ p a) (fun n _ => (Nat.rec (motive := fun _ => List (Option (Nat × Int))) θ (fun _ _ => fz_mt1 θ p a) n)) n)) n)) n)) n)) p.1)
theorem fz_mt_eq : @fz_mt = @ab_mt := by
  funext θ p a
  delta fz_mt ab_mt
  rw [fz_mt1_eq]
  obtain ⟨t, s, c⟩ := p
  dsimp only
  match t with
  | 0 => rfl
  | 1 => rfl
  | 2 => rfl
  | 3 => rfl
  | 4 => rfl
  | 5 => rfl
  | n + 6 => rfl
def fz_mtS (θ : List (Option (Nat × Int))) (P S : List ab_AV) : List (Option (Nat × Int)) := (List.rec (motive := fun _ => List (Option (Nat × Int)) → List ab_AV → List (Option (Nat × Int))) (fun θ _ => θ) (fun p _ ih θ S => (List.rec (motive := fun _ => List (Option (Nat × Int))) θ (fun a S _ => ih (fz_mt θ p a) S) S)) P) θ S
theorem fz_mtS_eq : @fz_mtS = @ab_mtS := by
  have k : ∀ P θ S, fz_mtS θ P S = ab_mtS θ P S := by
    intro P
    induction P with
    | nil => intro θ S; cases S <;> rfl
    | cons p P ih =>
      intro θ S
      cases S with
      | nil => rfl
      | cons a S =>
        have e : fz_mtS θ (p :: P) (a :: S) = fz_mtS (fz_mt θ p a) P S := rfl
        rw [e, ih, fz_mt_eq]
        rfl
  funext θ P S
  exact k P θ S
def fz_mtL (L : ab_LS) (θ : List (Option (Nat × Int))) (PL : ab_LS) : List (Option (Nat × Int)) := (List.rec (motive := fun _ => List (Option (Nat × Int)) → List (Option (Nat × Int))) (fun θ => θ) (fun q _ ih θ => ih (match (fz_lk L q.1) with | some a => fz_mt θ q.2 a | none => θ)) PL) θ
theorem fz_mtL_eq : @fz_mtL = @ab_mtL := by
  have k : ∀ L PL θ, fz_mtL L θ PL = ab_mtL L θ PL := by
    intro L PL
    induction PL with
    | nil => intro θ; rfl
    | cons q PL ih =>
      intro θ
      have e : fz_mtL L θ (q :: PL) = fz_mtL L (match fz_lk L q.1 with | some a => fz_mt θ q.2 a | none => θ) PL := rfl
      rw [e, ih, fz_mt_eq, fz_lk_eq]
      rfl
  funext L θ PL
  exact k L PL θ
def fz_mko (θ : List (Option (Nat × Int))) (j : Nat) : Option Nat := (zk_if (j.ble 1999999) (some j) (match θ[(j - 2000000) / 1000]? with
  | some (some q) => cond (fz_le 0 (q.2 + (((j - 2000000) % 1000 : Nat) : Int)) && fz_le (q.2 + (((j - 2000000) % 1000 : Nat) : Int)) 999) (some (2000000 + 1000 * q.1 + (q.2 + (((j - 2000000) % 1000 : Nat) : Int)).toNat)) none
  | _ => none))
theorem fz_mko_eq : @fz_mko = @ab_mko := by
  delta fz_mko ab_mko
  rw [fz_le_eq, zk_if_eq]
  first | done | rfl
def fz_mtD (Dl : ab_DL) (θ : List (Option (Nat × Int))) (PD : ab_DL) : List (Option (Nat × Int)) := (List.rec (motive := fun _ => List (Option (Nat × Int)) → List (Option (Nat × Int))) (fun θ => θ) (fun d _ ih θ => ih (match (fz_mko θ d.1.2) with | some j => (match (fz_dk Dl d.1.1 j) with | some q => fz_mt1 θ (0, d.2) (0, q) | none => θ) | none => θ)) PD) θ
theorem fz_mtD_eq : @fz_mtD = @ab_mtD := by
  have k : ∀ Dl PD θ, fz_mtD Dl θ PD = ab_mtD Dl θ PD := by
    intro Dl PD
    induction PD with
    | nil => intro θ; rfl
    | cons d PD ih =>
      intro θ
      have e : fz_mtD Dl θ (d :: PD) = fz_mtD Dl (match fz_mko θ d.1.2 with | some j => (match fz_dk Dl d.1.1 j with | some q => fz_mt1 θ (0, d.2) (0, q) | none => θ) | none => θ) PD := rfl
      rw [e, ih, fz_mt1_eq, fz_dk_eq, fz_mko_eq]
      rfl
  funext Dl θ PD
  exact k Dl PD θ
def fz_fz (l : List (Option (Nat × Int))) (B : ab_BD) : ab_TH := (List.rec (motive := fun _ => ab_BD → ab_TH) (fun _ => []) (fun o _ ih B => (List.rec (motive := fun _ => ab_TH) [] (fun b B _ => (match o with | some q => q :: ih B | none => ((0, b.1) :: ih B))) B)) l) B
theorem fz_fz_eq : @fz_fz = @ab_fz := by
  funext l
  induction l with
  | nil => funext B; cases B <;> rfl
  | cons o l ih =>
    funext B
    cases B with
    | nil => cases o <;> rfl
    | cons b B =>
      have e : fz_fz (o :: l) (b :: B) = (match o with | some q => q :: fz_fz l B | none => (0, b.1) :: fz_fz l B) := rfl
      rw [e, congrFun ih B]
      cases o <;> rfl
def fz_rg (n i : Nat) : List (Option (Nat × Int)) := (Nat.rec (motive := fun _ => Nat → List (Option (Nat × Int))) (fun _ => []) (fun _ ih i => some (i, 0) :: ih (Nat.succ i)) n) i
theorem fz_rg_eq : @fz_rg = @ab_rg := by
  funext n
  induction n with
  | zero => rfl
  | succ n ih =>
    funext i
    have e : fz_rg (n + 1) i = some (i, 0) :: fz_rg n (i + 1) := rfl
    rw [e, congrFun ih]
    rfl
def fz_gs (n0 : Nat) (PL : ab_LS) (PS : List ab_AV) (PB : ab_BD) (PD : ab_DL) (L : ab_LS) (S : List ab_AV) (Dl : ab_DL) : ab_TH := fz_fz (fz_mtD Dl (fz_mtS (fz_mtL L (zk_app (fz_rg n0 0) (zk_non (Nat.sub (zk_len PB) n0))) PL) PS S) PD) PB
theorem fz_gs_eq : @fz_gs = @ab_gs := by
  delta fz_gs ab_gs
  rw [fz_fz_eq, fz_mtD_eq, fz_mtS_eq, fz_mtL_eq, fz_rg_eq, zk_app_eq, zk_non_eq, zk_len_eq]
  first | done | rfl
def fz_mat (T : ab_RG) (PD : ab_DL) (B : ab_BD) (Dl : ab_DL) : Option (ab_BD × ab_DL) := (List.rec (motive := fun _ => ab_BD → ab_DL → Option (ab_BD × ab_DL)) (fun B Dl => some (B, Dl)) (fun d _ ih B Dl => (zk_if (d.1.2.ble 1999999) (match (fz_dk Dl d.1.1 d.1.2) with | some _ => ih B Dl | none => (match (fz_rdT T d.1.1 d.1.2 d.1.2) with | some r => ih (zk_app B [r]) ((d.1, (zk_len B, 0)) :: Dl) | none => none)) (ih B Dl))) PD) B Dl
theorem fz_mat_eq : @fz_mat = @ab_mat := by
  funext T PD
  induction PD with
  | nil => rfl
  | cons d PD ih =>
    funext B Dl
    have e : fz_mat T (d :: PD) B Dl = zk_if (d.1.2.ble 1999999) (match fz_dk Dl d.1.1 d.1.2 with | some _ => fz_mat T PD B Dl | none => (match fz_rdT T d.1.1 d.1.2 d.1.2 with | some r => fz_mat T PD (zk_app B [r]) ((d.1, (zk_len B, 0)) :: Dl) | none => none)) (fz_mat T PD B Dl) := rfl
    rw [e, ih, fz_rdT_eq, fz_dk_eq, zk_app_eq, zk_len_eq, zk_if_eq]
    show _ = cond (d.1.2.ble 1999999) (match ab_get T d.1.1 d.1.2 d.1.2 0 B Dl with
      | some (_, B', Dl') => ab_mat T PD B' Dl'
      | none => none) (ab_mat T PD B Dl)
    cases hc : d.1.2.ble 1999999 with
    | false => rfl
    | true =>
      unfold ab_get
      rw [show d.1.2.beq d.1.2 = true from Nat.beq_refl _, hc]
      dsimp only [cond, Bool.and_true]
      cases ab_dk Dl d.1.1 d.1.2 with
      | some q => rfl
      | none =>
        dsimp only
        cases ab_rdT T d.1.1 d.1.2 d.1.2 with
        | none => rfl
        | some r => rfl
def fz_rf2 (θ : ab_TH) (OB B : ab_BD) : ab_BD := (List.rec (motive := fun _ => ab_BD → ab_BD → ab_BD) (fun _ B => B) (fun q _ ih OB B => (List.rec (motive := fun _ => ab_BD) B (fun b OB _ => ih OB (zk_set B q.1 (fz_max (fz_lo B q.1) (zk_sub b.1 q.2), fz_min (fz_hi B q.1) (zk_sub b.2 q.2)))) OB)) θ) OB B
theorem fz_rf2_eq : @fz_rf2 = @ab_rf2 := by
  funext θ
  induction θ with
  | nil => funext OB B; cases OB <;> rfl
  | cons q θ ih =>
    funext OB B
    cases OB with
    | nil => rfl
    | cons b OB =>
      have e : fz_rf2 (q :: θ) (b :: OB) B = fz_rf2 θ OB (zk_set B q.1 (fz_max (fz_lo B q.1) (zk_sub b.1 q.2), fz_min (fz_hi B q.1) (zk_sub b.2 q.2))) := rfl
      rw [e, ih, fz_max_eq, fz_lo_eq, fz_min_eq, fz_hi_eq, zk_set_eq, zk_sub_eq]
      rfl
def fz_no (B : ab_BD) : Bool := (List.rec (motive := fun _ => Bool) false (fun b _ ih => (zk_if (fz_le b.1 b.2) ih true)) B)
theorem fz_no_eq : @fz_no = @ab_no := by
  funext B
  induction B with
  | nil => rfl
  | cons b B ih =>
    have e : fz_no (b :: B) = zk_if (fz_le b.1 b.2) (fz_no B) true := rfl
    have e2 : ab_no (b :: B) = (!(ab_le b.1 b.2) || ab_no B) := rfl
    rw [e, e2, ih, fz_le_eq, zk_if_eq]
    cases ab_le b.1 b.2 <;> rfl
def fz_sn (θ : ab_TH) (q : Nat × Int) : Nat × Int := (match (zk_get θ q.1) with | some x => (x.1, zk_add x.2 q.2) | none => q)
theorem fz_sn_eq : @fz_sn = @ab_sn := by
  delta fz_sn ab_sn
  rw [zk_get_eq, zk_add_eq]
  first | done | rfl
def fz_kp (M : ab_ML) (Dl : ab_DL) : ab_DL := (zk_flt (fun d => (zk_nt (zk_any (fun q => (zk_an (q.1.beq d.1.1) (zk_or (q.2.beq d.1.2) (zk_or (q.2.beq 1000000) (zk_nt (d.1.2.ble 1999999)))))) M))) Dl)
theorem fz_kp_eq : @fz_kp = @ab_kp := by
  delta fz_kp ab_kp
  rw [zk_flt_eq, zk_nt_eq, zk_any_eq, zk_an_eq, zk_or_eq]
  simp only [Bool.or_assoc]
def fz_snF (θ : ab_TH) (f : Nat × Nat × Int) : Nat × Nat × Int := ((fz_sn θ (f.1, 0)).1, (fz_sn θ (f.2.1, 0)).1, zk_add (zk_sub f.2.2 (fz_sn θ (f.1, 0)).2) (fz_sn θ (f.2.1, 0)).2)
theorem fz_snF_eq : @fz_snF = fun θ f => ((ab_sn θ (f.1, 0)).1, (ab_sn θ (f.2.1, 0)).1, f.2.2 - (ab_sn θ (f.1, 0)).2 + (ab_sn θ (f.2.1, 0)).2) := by
  delta fz_snF
  rw [fz_sn_eq, zk_add_eq, zk_sub_eq]
def fz_af (θ : ab_TH) (n0 : Nat) (o : ab_OU) (B : ab_BD) (F : ab_FT) (Dl : ab_DL) (M : ab_ML) : List ab_AV × ab_BD × ab_FT × ab_DL × ab_ML := 
  let θ' := zk_app θ (ab_ext (zk_len B) (Nat.sub (zk_len o.2.1) n0) 0)
  (zk_map (ab_sub θ') o.1, fz_rf2 θ (o.2.1.take n0) (zk_app B (o.2.1.drop n0)), zk_app (zk_map (fz_snF θ') o.2.2.1) F, zk_app (zk_fmap (fun d => (match (fz_mk θ' d.1.2) with | some j => some ((d.1.1, j), fz_sn θ' d.2) | none => none)) o.2.2.2.1) (fz_kp o.2.2.2.2 Dl), zk_app o.2.2.2.2 M)
theorem fz_af_eq : @fz_af = @ab_af := by
  delta fz_af ab_af
  rw [fz_rf2_eq, fz_snF_eq, fz_mk_eq, fz_sn_eq, fz_kp_eq, zk_app_eq, zk_len_eq, zk_map_eq, zk_fmap_eq]
  first | done | rfl
def fz_so (θ : ab_TH) (l : List Nat) : Int := (List.rec (motive := fun _ => Int) 0 (fun s _ ih => zk_add (fz_sn θ (s, 0)).2 ih) l)
theorem fz_so_eq : @fz_so = @ab_so := by
  funext θ l
  induction l with
  | nil => rfl
  | cons s l ih =>
    have e : fz_so θ (s :: l) = zk_add (fz_sn θ (s, 0)).2 (fz_so θ l) := rfl
    rw [e, ih, fz_sn_eq, zk_add_eq]
    rfl
def fz_msb (θ : ab_TH) (e : ab_ME) : ab_ME := (e.1 + fz_so θ e.2.1 - fz_so θ e.2.2, e.2.1.map (fun s => (fz_sn θ (s, 0)).1), e.2.2.map (fun s => (fz_sn θ (s, 0)).1))
theorem fz_msb_eq : @fz_msb = @ab_msb := by
  delta fz_msb ab_msb
  rw [fz_so_eq, fz_sn_eq]
  first | done | rfl
def fz_nl (B : ab_BD) (l : List Nat) : Int := (List.rec (motive := fun _ => Int) 0 (fun n _ ih => zk_sub ih (fz_lo B n)) l)
theorem fz_nl_eq : @fz_nl = @ab_nl := by
  funext B l
  induction l with
  | nil => rfl
  | cons n l ih =>
    have e : fz_nl B (n :: l) = zk_sub (fz_nl B l) (fz_lo B n) := rfl
    rw [e, ih, fz_lo_eq, zk_sub_eq]
    rfl
def fz_pr (B : ab_BD) (F : ab_FT) (P N : List Nat) : Int := (List.rec (motive := fun _ => List Nat → Int) (fun N => fz_nl B N) (fun p _ ih N => (match (ab_rm p N) with | some N' => ih N' | none => (List.rec (motive := fun _ => Int) (zk_add (fz_hi B p) (ih [])) (fun n N _ => zk_add (fz_ub B F p n) (ih N)) N))) P) N
theorem fz_pr_eq : @fz_pr = @ab_pr := by
  funext B F P
  induction P with
  | nil => funext N; exact congrFun (congrFun fz_nl_eq B) N
  | cons p P ih =>
    funext N
    have e2 : ab_pr B F (p :: P) N = (match ab_rm p N with
      | some N' => ab_pr B F P N'
      | none => match N with
        | [] => ab_hi B p + ab_pr B F P []
        | n :: N' => ab_ub B F p n + ab_pr B F P N') := by cases N <;> rfl
    have e : fz_pr B F (p :: P) N = (match ab_rm p N with | some N' => fz_pr B F P N' | none => (List.rec (motive := fun _ => Int) (zk_add (fz_hi B p) (fz_pr B F P [])) (fun n N _ => zk_add (fz_ub B F p n) (fz_pr B F P N)) N)) := rfl
    rw [e, e2, ih, fz_hi_eq, fz_ub_eq, zk_add_eq]
    cases ab_rm p N with
    | some N' => rfl
    | none => cases N <;> rfl
def fz_dif (B : ab_BD) (F : ab_FT) (a b : ab_ME) : Int := a.1 - b.1 + fz_pr B F (a.2.1 ++ b.2.2) (a.2.2 ++ b.2.1)
theorem fz_dif_eq : @fz_dif = @ab_dif := by
  delta fz_dif ab_dif
  rw [fz_pr_eq]
  first | done | rfl
def fz_low (B : ab_BD) (F : ab_FT) (a : ab_ME) : Int := -(fz_dif B F (0, [], []) a)
theorem fz_low_eq : @fz_low = @ab_low := by
  delta fz_low ab_low
  rw [fz_dif_eq]
  first | done | rfl
def fz_fa (B : ab_BD) (F : ab_FT) (a b : ab_ME) : Bool := fz_le (fz_dif B F a b) (-1) && fz_le 0 (fz_low B F a)
theorem fz_fa_eq : @fz_fa = @ab_fa := by
  delta fz_fa ab_fa
  rw [fz_le_eq, fz_dif_eq, fz_low_eq]
  first | done | rfl
def fz_nr (B : ab_BD) (F : ab_FT) (a b : ab_ME) : Bool := fz_le (fz_dif B F a b) 0
theorem fz_nr_eq : @fz_nr = @ab_nr := by
  delta fz_nr ab_nr
  rw [fz_le_eq, fz_dif_eq]
  first | done | rfl
def fz_fall (B : ab_BD) (F : ab_FT) (a b : ab_M3) : Bool := fz_fa B F a.1 b.1 || (fz_nr B F a.1 b.1 && (fz_fa B F a.2.1 b.2.1 || (fz_nr B F a.2.1 b.2.1 && fz_fa B F a.2.2 b.2.2)))
theorem fz_fall_eq : @fz_fall = @ab_fall := by
  delta fz_fall ab_fall
  rw [fz_fa_eq, fz_nr_eq]
  first | done | rfl
def fz_rq (P S : List ab_AV) : Bool := (List.rec (motive := fun _ => List ab_AV → Bool) (fun S => (List.rec (motive := fun _ => Bool) true (fun _ _ _ => false) S)) (fun p _ ih S => (List.rec (motive := fun _ => Bool) false (fun a S _ => (zk_an (p.1.beq a.1) (zk_an (zk_if (p.1.beq 2) (p.2.1.beq a.2.1) (zk_if (p.1.beq 5) (p.2.1.beq a.2.1) true)) (ih S)))) S)) P) S
theorem fz_rq_eq : @fz_rq = @ab_rq := by
  funext P
  induction P with
  | nil => funext S; cases S <;> rfl
  | cons p P ih =>
    funext S
    cases S with
    | nil => rfl
    | cons a S =>
      have e : fz_rq (p :: P) (a :: S) = zk_an (p.1.beq a.1) (zk_an (zk_if (p.1.beq 2) (p.2.1.beq a.2.1) (zk_if (p.1.beq 5) (p.2.1.beq a.2.1) true)) (fz_rq P S)) := rfl
      rw [e, ih, zk_an_eq, zk_if_eq]
      dsimp only
      rw [← Bool.and_assoc]
      obtain ⟨t, s, c⟩ := p
      match t with
      | 0 => rfl
      | 1 => rfl
      | 2 => rfl
      | 3 => rfl
      | 4 => rfl
      | 5 => rfl
      | n + 6 => rfl
def fz_nf (B : ab_BD) (F : ab_FT) : Bool := (List.rec (motive := fun _ => Bool) false (fun f _ ih => (zk_if (fz_le (zk_sub (fz_lo B f.1) (fz_hi B f.2.1)) f.2.2) ih true)) F)
theorem fz_nf_eq : @fz_nf = @ab_nf := by
  funext B F
  induction F with
  | nil => rfl
  | cons f F ih =>
    have e : fz_nf B (f :: F) = zk_if (fz_le (zk_sub (fz_lo B f.1) (fz_hi B f.2.1)) f.2.2) (fz_nf B F) true := rfl
    have e2 : ab_nf B (f :: F) = (!(ab_le (ab_lo B f.1 - ab_hi B f.2.1) f.2.2) || ab_nf B F) := rfl
    rw [e, e2, ih, fz_le_eq, fz_lo_eq, fz_hi_eq, zk_if_eq, zk_sub_eq]
    cases ab_le (ab_lo B f.1 - ab_hi B f.2.1) f.2.2 <;> rfl
def fz_ng (B : ab_BD) (F G : ab_FT) : Bool := (List.rec (motive := fun _ => Bool) false (fun f _ ih => (zk_if (fz_le (zk_neg f.2.2) (fz_ub B F f.2.1 f.1)) ih true)) G)
theorem fz_ng_eq : @fz_ng = @ab_ng := by
  funext B F G
  induction G with
  | nil => rfl
  | cons f G ih =>
    have e : fz_ng B F (f :: G) = zk_if (fz_le (zk_neg f.2.2) (fz_ub B F f.2.1 f.1)) (fz_ng B F G) true := rfl
    have e2 : ab_ng B F (f :: G) = (!(ab_le (-f.2.2) (ab_ub B F f.2.1 f.1)) || ab_ng B F G) := rfl
    rw [e, e2, ih, fz_le_eq, fz_ub_eq, zk_if_eq, zk_neg_eq]
    cases ab_le (-f.2.2) (ab_ub B F f.2.1 f.1) <;> rfl
def fz_tgt (F : ab_FT) (B : ab_BD) : ab_BD := (List.rec (motive := fun _ => ab_BD → ab_BD) (fun B => B) (fun f _ ih B => ih (zk_set (zk_set B f.1 (fz_lo B f.1, fz_min (fz_hi B f.1) (zk_add (fz_hi B f.2.1) f.2.2))) f.2.1 (fz_max (fz_lo B f.2.1) (zk_sub (fz_lo B f.1) f.2.2), fz_hi B f.2.1))) F) B
theorem fz_tgt_eq : @fz_tgt = @ab_tgt := by
  funext F
  induction F with
  | nil => rfl
  | cons f F ih =>
    funext B
    have e : fz_tgt (f :: F) B = fz_tgt F (zk_set (zk_set B f.1 (fz_lo B f.1, fz_min (fz_hi B f.1) (zk_add (fz_hi B f.2.1) f.2.2))) f.2.1 (fz_max (fz_lo B f.2.1) (zk_sub (fz_lo B f.1) f.2.2), fz_hi B f.2.1)) := rfl
    rw [e, ih, fz_lo_eq, fz_min_eq, fz_hi_eq, fz_max_eq, zk_set_eq, zk_add_eq, zk_sub_eq]
    rfl
def fz_pr1 (p a : ab_AV) : Bool := (zk_if (zk_an (p.2.1.beq 0) (zk_or (p.1.beq 0) (p.1.beq 1))) (zk_an (a.2.1.beq 0) (fz_ieq p.2.2 a.2.2)) true)
def fz_prB1 (PB B : ab_BD) (n : Nat) (p a : ab_AV) : Bool := (zk_if (zk_an (zk_or (p.1.beq 0) (p.1.beq 1)) (zk_an (fz_ieq p.2.2 0) ((Nat.succ a.2.1).ble n))) (zk_an (fz_le (fz_lo PB p.2.1) (zk_add (fz_lo B a.2.1) a.2.2)) (fz_le (zk_add (fz_hi B a.2.1) a.2.2) (fz_hi PB p.2.1))) true)
def fz_prL (PB B : ab_BD) (n : Nat) (PL L : ab_LS) : Bool := (zk_all (fun q => (match (fz_lk L q.1) with | some a => (zk_an (fz_pr1 q.2 a) (fz_prB1 PB B n q.2 a)) | none => false)) PL)
def fz_prS (PB B : ab_BD) (n : Nat) (P S : List ab_AV) : Bool := (List.rec (motive := fun _ => List ab_AV → Bool) (fun S => (List.rec (motive := fun _ => Bool) true (fun _ _ _ => false) S)) (fun p _ ih S => (List.rec (motive := fun _ => Bool) false (fun a S _ => (zk_an (fz_pr1 p a) (zk_an (fz_prB1 PB B n p a) (ih S)))) S)) P) S
def fz_prD (PD Dl : ab_DL) : Bool := (zk_all (fun d => (zk_if (d.2.1.beq 0) (zk_if (d.1.2.ble 1999999) (match (fz_dk Dl d.1.1 d.1.2) with | some q => (zk_an (q.1.beq 0) (fz_ieq d.2.2 q.2)) | none => true) true) true)) PD)
def fz_pre (PL : ab_LS) (PS : List ab_AV) (PB : ab_BD) (PD : ab_DL) (L : ab_LS) (S : List ab_AV) (B : ab_BD) (Dl : ab_DL) : Bool := (zk_an (fz_prL PB B (zk_len B) PL L) (zk_an (fz_prS PB B (zk_len B) PS S) (fz_prD PD Dl)))
def fz_ou (o : ab_OU) (rest : List ab_AV) (L : ab_LS) (r : List ab_AV × ab_BD × ab_FT × ab_DL × ab_ML) : Option ab_AS := (zk_if (zk_or (fz_no r.2.1) (zk_or (fz_nf r.2.1 r.2.2.1) (fz_ng r.2.1 r.2.2.1 (r.2.2.1.take (zk_len o.2.2.1))))) none (some (L, zk_app r.1 rest, r.2.1, r.2.2.1, r.2.2.2.1, r.2.2.2.2)))
theorem fz_ou_eq : @fz_ou = fun o rest L r => cond (ab_no r.2.1 || ab_nf r.2.1 r.2.2.1 || ab_ng r.2.1 r.2.2.1 (r.2.2.1.take o.2.2.1.length)) none (some (L, r.1 ++ rest, r.2.1, r.2.2.1, r.2.2.2.1, r.2.2.2.2)) := by
  delta fz_ou
  rw [fz_no_eq, fz_nf_eq, fz_ng_eq, zk_if_eq, zk_or_eq, zk_len_eq, zk_app_eq]
  simp only [Bool.or_assoc]
def fz_tr2 (q : Nat × Nat × ab_CN) (θ : ab_TH) (as rest : List ab_AV) (L : ab_LS) (B : ab_BD) (F : ab_FT) (Dl : ab_DL) (M : ab_ML) : Option (List ab_AS) := (zk_if (fz_vf θ [] q.2.2.1 q.2.2.2.1 q.2.2.2.2.1 q.2.2.2.2.2.1 [] [] as B F Dl []) (some (zk_fmap (fun o => fz_ou o rest L (fz_af θ (zk_len q.2.2.2.1) o B F Dl M)) q.2.2.2.2.2.2)) none)
def fz_tr1 (T : ab_RG) (q : Nat × Nat × ab_CN) (lev mn : Nat) (as rest : List ab_AV) (L : ab_LS) (B : ab_BD) (F : ab_FT) (Dl : ab_DL) (M : ab_ML) : Option (List ab_AS) := (zk_if (zk_an (q.1.beq mn) (zk_an ((Nat.succ q.2.1).ble lev) (zk_an (fz_rq q.2.2.1 as) (fz_pre [] q.2.2.1 q.2.2.2.1 q.2.2.2.2.2.1 [] as B Dl)))) (match (fz_mat T q.2.2.2.2.2.1 B Dl) with | some r => fz_tr2 q (fz_gs 1 [] q.2.2.1 q.2.2.2.1 q.2.2.2.2.2.1 [] as r.2) as rest L r.1 F r.2 M | none => none) none)
theorem fz_dk_cons (d : (Nat × Nat) × (Nat × Int)) (l : ab_DL) (k j : Nat) : fz_dk (d :: l) k j = cond (d.1.2.beq j) (cond (d.1.1.beq k) (some d.2) (fz_dk l k j)) (fz_dk l k j) := by
  have e : fz_dk (d :: l) k j = zk_if (d.1.2.beq j) (zk_if (d.1.1.beq k) (some d.2) (fz_dk l k j)) (fz_dk l k j) := rfl
  rw [e, zk_if_eq]
theorem fz_mat_cons (T : ab_RG) (d : (Nat × Nat) × (Nat × Int)) (PD : ab_DL) (B : ab_BD) (Dl : ab_DL) : fz_mat T (d :: PD) B Dl = cond (d.1.2.ble 1999999) (match fz_dk Dl d.1.1 d.1.2 with | some _ => fz_mat T PD B Dl | none => (match fz_rdT T d.1.1 d.1.2 d.1.2 with | some r => fz_mat T PD (zk_app B [r]) ((d.1, (zk_len B, 0)) :: Dl) | none => none)) (fz_mat T PD B Dl) := by
  have e : fz_mat T (d :: PD) B Dl = zk_if (d.1.2.ble 1999999) (match fz_dk Dl d.1.1 d.1.2 with | some _ => fz_mat T PD B Dl | none => (match fz_rdT T d.1.1 d.1.2 d.1.2 with | some r => fz_mat T PD (zk_app B [r]) ((d.1, (zk_len B, 0)) :: Dl) | none => none)) (fz_mat T PD B Dl) := rfl
  rw [e, zk_if_eq]
theorem fz_mat_keep {T : ab_RG} {k j : Nat} {q : Nat × Int} : ∀ (PD : ab_DL) (B : ab_BD) (Dl : ab_DL) {r : ab_BD × ab_DL}, fz_mat T PD B Dl = some r → fz_dk Dl k j = some q → fz_dk r.2 k j = some q := by
  intro PD
  induction PD with
  | nil =>
    intro B Dl r h hd
    have : r = (B, Dl) := (Option.some.inj h).symm
    rw [this]
    exact hd
  | cons d PD ih =>
    intro B Dl r h hd
    rw [fz_mat_cons] at h
    cases hc : d.1.2.ble 1999999 with
    | false => rw [hc] at h; exact ih B Dl h hd
    | true =>
      rw [hc] at h
      cases h1 : fz_dk Dl d.1.1 d.1.2 with
      | some q9 => rw [h1] at h; exact ih B Dl h hd
      | none =>
        rw [h1] at h
        cases h2 : fz_rdT T d.1.1 d.1.2 d.1.2 with
        | none => rw [h2] at h; cases h
        | some r9 =>
          rw [h2] at h
          refine ih _ _ h ?_
          rw [fz_dk_cons]
          cases e1 : d.1.2.beq j with
          | false => exact hd
          | true =>
            cases e2 : d.1.1.beq k with
            | false => exact hd
            | true =>
              exfalso
              rw [Nat.eq_of_beq_eq_true e1, Nat.eq_of_beq_eq_true e2, hd] at h1
              cases h1
theorem fz_pr1_ok {θ : ab_TH} {p a : ab_AV} (h0 : θ[0]? = some (0, 0)) (h : ab_eqv θ p a = true) : fz_pr1 p a = true := by
  obtain ⟨t, s, c⟩ := p
  cases hs : s.beq 0 with
  | false =>
    have e : fz_pr1 (t, s, c) a = zk_if (zk_an (s.beq 0) (zk_or (t.beq 0) (t.beq 1))) (zk_an (a.2.1.beq 0) (fz_ieq c a.2.2)) true := rfl
    rw [e, hs]
    rfl
  | true =>
    have := Nat.eq_of_beq_eq_true hs
    subst this
    have key : (match θ[0]? with | some q => q.1.beq a.2.1 && ab_ieq (q.2 + c) a.2.2 | none => false) = true → (zk_an (a.2.1.beq 0) (fz_ieq c a.2.2)) = true := by
      intro g
      rw [h0] at g
      replace g : ((0 : Nat).beq a.2.1 && ab_ieq (0 + c) a.2.2) = true := g
      rw [Bool.and_eq_true, Int.zero_add] at g
      rw [fz_ieq_eq, g.2, ← Nat.eq_of_beq_eq_true g.1]
      rfl
    match t, h with
    | 0, h =>
      unfold ab_eqv at h
      rw [Bool.and_eq_true] at h
      exact key h.2
    | 1, h =>
      unfold ab_eqv at h
      rw [Bool.and_eq_true] at h
      exact key h.2
    | n + 2, h => rfl
theorem fz_mat_app {T : ab_RG} : ∀ (PD : ab_DL) (B : ab_BD) (Dl : ab_DL) {r : ab_BD × ab_DL}, fz_mat T PD B Dl = some r → ∃ E, r.1 = B ++ E := by
  intro PD
  induction PD with
  | nil =>
    intro B Dl r h
    have : r = (B, Dl) := (Option.some.inj h).symm
    rw [this]
    exact ⟨[], (List.append_nil B).symm⟩
  | cons d PD ih =>
    intro B Dl r h
    rw [fz_mat_cons] at h
    cases hc : d.1.2.ble 1999999 with
    | false => rw [hc] at h; exact ih B Dl h
    | true =>
      rw [hc] at h
      cases h1 : fz_dk Dl d.1.1 d.1.2 with
      | some q9 => rw [h1] at h; exact ih B Dl h
      | none =>
        rw [h1] at h
        cases h2 : fz_rdT T d.1.1 d.1.2 d.1.2 with
        | none => rw [h2] at h; cases h
        | some r9 =>
          rw [h2] at h
          replace h : fz_mat T PD (zk_app B [r9]) ((d.1, (zk_len B, 0)) :: Dl) = some r := h
          obtain ⟨E, hE⟩ := ih _ _ h
          rw [zk_app_eq] at hE
          exact ⟨[r9] ++ E, by rw [hE]; exact List.append_assoc B [r9] E⟩
theorem fz_app_lo {B E : ab_BD} {s : Nat} (h : s < B.length) : ab_lo (B ++ E) s = ab_lo B s ∧ ab_hi (B ++ E) s = ab_hi B s := by
  unfold ab_lo ab_hi
  rw [List.getD_eq_getElem?_getD, List.getD_eq_getElem?_getD, List.getElem?_append_left h]
  exact ⟨rfl, rfl⟩
theorem fz_vb_at {B : ab_BD} : ∀ (θ : ab_TH) (PB : ab_BD) (i : Nat) (q : Nat × Int), ab_vb B θ PB = true → θ[i]? = some q → ab_le (ab_lo PB i) (ab_lo B q.1 + q.2) = true ∧ ab_le (ab_hi B q.1 + q.2) (ab_hi PB i) = true := by
  intro θ
  induction θ with
  | nil => intro PB i q h hi; cases hi
  | cons x θ ih =>
    intro PB i q h hi
    cases PB with
    | nil => cases h
    | cons b PB =>
      unfold ab_vb at h
      rw [Bool.and_eq_true, Bool.and_eq_true] at h
      cases i with
      | zero =>
        have e : x = q := Option.some.inj hi
        subst e
        exact h.1
      | succ i => exact ih PB i q h.2 hi
theorem fz_prB1_ok {θ : ab_TH} {PB B B1 : ab_BD} {p a : ab_AV} (hv : ab_vb B1 θ PB = true) (hB : ∃ E, B1 = B ++ E) (h : ab_eqv θ p a = true) : fz_prB1 PB B (zk_len B) p a = true := by
  have e : fz_prB1 PB B (zk_len B) p a = zk_if (zk_an (zk_or (p.1.beq 0) (p.1.beq 1)) (zk_an (fz_ieq p.2.2 0) ((Nat.succ a.2.1).ble (zk_len B)))) (zk_an (fz_le (fz_lo PB p.2.1) (zk_add (fz_lo B a.2.1) a.2.2)) (fz_le (zk_add (fz_hi B a.2.1) a.2.2) (fz_hi PB p.2.1))) true := rfl
  rw [e, zk_if_eq, zk_an_eq, zk_or_eq, zk_len_eq, fz_ieq_eq, fz_le_eq, fz_lo_eq, fz_hi_eq, zk_add_eq]
  dsimp only
  cases hc : ((p.1.beq 0 || p.1.beq 1) && (ab_ieq p.2.2 0 && (Nat.succ a.2.1).ble B.length)) with
  | false => rfl
  | true =>
    rw [Bool.and_eq_true, Bool.and_eq_true, Bool.or_eq_true] at hc
    obtain ⟨c1, c2, c3⟩ := hc
    have c2 := ab_ieq_ok c2
    have c3 := Nat.le_of_ble_eq_true c3
    obtain ⟨t, s, c⟩ := p
    replace c2 : c = 0 := c2
    subst c2
    have key : (match θ[s]? with | some q => q.1.beq a.2.1 && ab_ieq (q.2 + 0) a.2.2 | none => false) = true := by
      unfold ab_eqv at h
      rw [Bool.and_eq_true] at h
      rcases c1 with c1 | c1
      · have c1 : t = 0 := Nat.eq_of_beq_eq_true c1
        subst c1
        exact h.2
      · have c1 : t = 1 := Nat.eq_of_beq_eq_true c1
        subst c1
        exact h.2
    cases hs : θ[s]? with
    | none => rw [hs] at key; cases key
    | some q =>
      rw [hs] at key
      replace key : (q.1.beq a.2.1 && ab_ieq (q.2 + 0) a.2.2) = true := key
      rw [Bool.and_eq_true] at key
      have k1 := Nat.eq_of_beq_eq_true key.1
      have k2 := ab_ieq_ok key.2
      rw [Int.add_zero] at k2
      obtain ⟨E, rfl⟩ := hB
      have g := fz_vb_at θ PB s q hv hs
      have l := fz_app_lo (E := E) c3
      rw [k1, k2, l.1, l.2] at g
      show (ab_le (ab_lo PB s) (ab_lo B a.2.1 + a.2.2) && ab_le (ab_hi B a.2.1 + a.2.2) (ab_hi PB s)) = true
      rw [g.1, g.2]
      rfl
theorem fz_prS_ok {θ : ab_TH} {PB B B1 : ab_BD} (hv : ab_vb B1 θ PB = true) (hB : ∃ E, B1 = B ++ E) (h0 : θ[0]? = some (0, 0)) : ∀ (P S : List ab_AV), ab_eqs θ P S = true → fz_prS PB B (zk_len B) P S = true := by
  intro P
  induction P with
  | nil =>
    intro S h
    cases S with
    | nil => rfl
    | cons a S => cases h
  | cons p P ih =>
    intro S h
    cases S with
    | nil => cases h
    | cons a S =>
      replace h : (ab_eqv θ p a && ab_eqs θ P S) = true := h
      rw [Bool.and_eq_true] at h
      have e : fz_prS PB B (zk_len B) (p :: P) (a :: S) = zk_an (fz_pr1 p a) (zk_an (fz_prB1 PB B (zk_len B) p a) (fz_prS PB B (zk_len B) P S)) := rfl
      rw [e, fz_pr1_ok h0 h.1, fz_prB1_ok hv hB h.1, ih S h.2]
      rfl
theorem fz_pre_ok {T : ab_RG} {θ : ab_TH} {PL : ab_LS} {PS : List ab_AV} {PB : ab_BD} {PF : ab_FT} {PD : ab_DL} {PM : ab_ML} {L : ab_LS} {S : List ab_AV} {B B1 : ab_BD} {F : ab_FT} {Dl D1 : ab_DL} {M : ab_ML} (hm : ab_mat T PD B Dl = some (B1, D1)) (hv : ab_vf θ PL PS PB PF PD PM L S B1 F D1 M = true) : fz_pre PL PS PB PD L S B Dl = true := by
  unfold ab_vf at hv
  rw [Bool.and_eq_true, Bool.and_eq_true, Bool.and_eq_true, Bool.and_eq_true, Bool.and_eq_true, Bool.and_eq_true, Bool.and_eq_true] at hv
  obtain ⟨⟨⟨⟨⟨⟨⟨h1, h2⟩, h3⟩, h4⟩, h5⟩, h6⟩, h7⟩, h8⟩ := hv
  have h0 : θ[0]? = some (0, 0) := by
    cases θ with
    | nil => cases h2
    | cons q θ =>
      replace h2 : (q.1.beq 0 && ab_ieq q.2 0) = true := h2
      rw [Bool.and_eq_true] at h2
      have e1 := Nat.eq_of_beq_eq_true h2.1
      have e2 := ab_ieq_ok h2.2
      obtain ⟨a, b⟩ := q
      replace e1 : a = 0 := e1
      replace e2 : b = 0 := e2
      subst e1
      subst e2
      rfl
  have hE : ∃ E, B1 = B ++ E := fz_mat_app PD B Dl (by rw [fz_mat_eq]; exact hm)
  have g1 : fz_prL PB B (zk_len B) PL L = true := by
    delta fz_prL
    rw [zk_all_eq]
    refine List.all_eq_true.mpr (fun q hq => ?_)
    have g := List.all_eq_true.mp h4 q hq
    try dsimp only at g ⊢
    rw [fz_lk_eq]
    cases hl : ab_lk L q.1 with
    | none => rw [hl] at g; cases g
    | some a =>
      rw [hl] at g
      show zk_an (fz_pr1 q.2 a) (fz_prB1 PB B (zk_len B) q.2 a) = true
      rw [fz_pr1_ok h0 g, fz_prB1_ok h3 hE g]
      rfl
  have g3 : fz_prD PD Dl = true := by
    delta fz_prD
    rw [zk_all_eq]
    refine List.all_eq_true.mpr (fun d hd => ?_)
    have g := List.all_eq_true.mp h7 d hd
    try dsimp only at g ⊢
    cases c1 : d.2.1.beq 0 with
    | false => rfl
    | true =>
      cases c2 : d.1.2.ble 1999999 with
      | false => rfl
      | true =>
        cases c3 : fz_dk Dl d.1.1 d.1.2 with
        | none => rfl
        | some q =>
          have k1 := fz_mat_keep PD B Dl (by rw [fz_mat_eq]; exact hm) c3
          rw [fz_dk_eq] at k1
          replace k1 : ab_dk D1 d.1.1 d.1.2 = some q := k1
          have k2 : ab_mk θ d.1.2 = some d.1.2 := by unfold ab_mk; rw [c2]; rfl
          rw [k2] at g
          dsimp only at g
          rw [k1] at g
          dsimp only at g
          rw [Nat.eq_of_beq_eq_true c1, h0] at g
          replace g : ((0 : Nat).beq q.1 && ab_ieq (0 + d.2.2) q.2) = true := g
          rw [Bool.and_eq_true, Int.zero_add] at g
          show zk_an (q.1.beq 0) (fz_ieq d.2.2 q.2) = true
          rw [fz_ieq_eq, g.2, ← Nat.eq_of_beq_eq_true g.1]
          rfl
  have g2 := fz_prS_ok h3 hE h0 PS S h5
  have e : fz_pre PL PS PB PD L S B Dl = zk_an (fz_prL PB B (zk_len B) PL L) (zk_an (fz_prS PB B (zk_len B) PS S) (fz_prD PD Dl)) := rfl
  rw [e, g1, g2, g3]
  rfl
theorem fz_tr1_eq : @fz_tr1 = @ab_tr1 := by
  funext T q lev mn as rest L B F Dl M
  cases hp : fz_pre [] q.2.2.1 q.2.2.2.1 q.2.2.2.2.2.1 [] as B Dl with
  | true =>
    delta fz_tr1 fz_tr2 ab_tr1
    rw [hp, fz_ou_eq, fz_gs_eq, fz_mat_eq, fz_rq_eq, fz_vf_eq, fz_af_eq, zk_fmap_eq, zk_len_eq, zk_an_eq, zk_if_eq]
    dsimp only
    rw [Bool.and_true, Bool.and_assoc]
    cases ab_mat T q.2.2.2.2.2.1 B Dl <;> rfl
  | false =>
    have e : fz_tr1 T q lev mn as rest L B F Dl M = none := by
      delta fz_tr1
      rw [hp, zk_an_eq, zk_if_eq]
      dsimp only
      rw [Bool.and_false, Bool.and_false, Bool.and_false]
      rfl
    rw [e]
    unfold ab_tr1
    cases hm : ab_mat T q.2.2.2.2.2.1 B Dl with
    | none => dsimp only; cases (q.1.beq mn && (q.2.1 + 1).ble lev && ab_rq q.2.2.1 as) <;> rfl
    | some r =>
      obtain ⟨B1, D1⟩ := r
      dsimp only
      cases hv : ab_vf (ab_gs 1 [] q.2.2.1 q.2.2.2.1 q.2.2.2.2.2.1 [] as D1) [] q.2.2.1 q.2.2.2.1 q.2.2.2.2.1 q.2.2.2.2.2.1 [] [] as B1 F D1 [] with
      | false => cases (q.1.beq mn && (q.2.1 + 1).ble lev && ab_rq q.2.2.1 as) <;> rfl
      | true => rw [fz_pre_ok hm hv] at hp; cases hp
def fz_try (T : ab_RG) (lev mn : Nat) (as rest : List ab_AV) (L : ab_LS) (B : ab_BD) (F : ab_FT) (Dl : ab_DL) (M : ab_ML) (KS : ab_KS) : Option (List ab_AS) := (List.rec (motive := fun _ => Option (List ab_AS)) none (fun q _ ih => (match (fz_tr1 T q lev mn as rest L B F Dl M) with | some l => some l | none => ih)) KS)
theorem fz_try_eq : @fz_try = @ab_try := by
  funext T lev mn as rest L B F Dl M KS
  induction KS with
  | nil => rfl
  | cons q KS ih =>
    have e : fz_try T lev mn as rest L B F Dl M (q :: KS) = (match fz_tr1 T q lev mn as rest L B F Dl M with | some l => some l | none => fz_try T lev mn as rest L B F Dl M KS) := rfl
    rw [e, ih, fz_tr1_eq]
    show _ = (match ab_tr1 T q lev mn as rest L B F Dl M with | some l => some l | none => ab_try T lev mn as rest L B F Dl M KS)
    cases ab_tr1 T q lev mn as rest L B F Dl M <;> rfl
def fz_cl (T : ab_RG) (MT : List ab_MR) (PM : ab_PC2) (KS : ab_KS) (lev : Nat) (i : Instr) (len : Nat) (X : ab_AS) : Option (List ab_AS) := match ab_iv i with
  | some (ob, x) => match zk_find (fun q => q.1.beq x) PM with
    | some q => match zk_get MT q.2.2 with
      | some mr => match ab_pop (mr.2.2.2.2.1 + cond ob 1 0) X.2.1 [] with
        | some (as, rest) => cond (len.beq 3 && (mr.2.2.2.2.2.1 == ob) && (ab_cat rest).ble 8 && mr.2.2.1.ble 21)
          (fz_try T lev q.2.2 as rest X.1 X.2.2.1 X.2.2.2.1 X.2.2.2.2.1 X.2.2.2.2.2 KS) none
        | none => none
      | none => none
    | none => none
  | none => none
theorem fz_cl_eq : @fz_cl = @ab_cl := by
  delta fz_cl ab_cl
  rw [fz_try_eq, zk_find_eq, zk_get_eq]
  first | done | rfl
def fz_rid (n i : Nat) (θ : ab_TH) : Bool := (Nat.rec (motive := fun _ => Nat → ab_TH → Bool) (fun _ _ => true) (fun _ ih i θ => (List.rec (motive := fun _ => Bool) false (fun q θ _ => (zk_an (q.1.beq i) (zk_an (fz_ieq q.2 0) (ih (Nat.succ i) θ)))) θ)) n) i θ
theorem fz_rid_eq : @fz_rid = @ab_rid := by
  funext n
  induction n with
  | zero => funext i θ; cases θ <;> rfl
  | succ n ih =>
    funext i θ
    cases θ with
    | nil => rfl
    | cons q θ =>
      have e : fz_rid (n + 1) i (q :: θ) = zk_an (q.1.beq i) (zk_an (fz_ieq q.2 0) (fz_rid n (i + 1) θ)) := rfl
      rw [e, ih, fz_ieq_eq, zk_an_eq]
      dsimp only
      rw [← Bool.and_assoc]
      rfl
def fz_en1 (n0 : Nat) (X : ab_AS) (o : ab_OU) (B : ab_BD) (Dl : ab_DL) (θ : ab_TH) : Bool := (zk_an (fz_vf θ [] o.1 o.2.1 o.2.2.1 o.2.2.2.1 o.2.2.2.2 [] X.2.1 B X.2.2.2.1 Dl X.2.2.2.2.2) (fz_rid n0 0 θ))
def fz_en (T : ab_RG) (n0 : Nat) (X : ab_AS) (o : ab_OU) : Bool := (zk_if (fz_pre [] o.1 o.2.1 o.2.2.2.1 [] X.2.1 X.2.2.1 X.2.2.2.2.1) (match (fz_mat T o.2.2.2.1 X.2.2.1 X.2.2.2.2.1) with | some r => fz_en1 n0 X o r.1 r.2 (fz_gs n0 [] o.1 o.2.1 o.2.2.2.1 [] X.2.1 r.2) | none => false) false)
theorem fz_en_eq : @fz_en = @ab_en := by
  funext T n0 X o
  cases hp : fz_pre [] o.1 o.2.1 o.2.2.2.1 [] X.2.1 X.2.2.1 X.2.2.2.2.1 with
  | true =>
    delta fz_en fz_en1 ab_en
    rw [hp, fz_mat_eq, fz_gs_eq, fz_vf_eq, fz_rid_eq, zk_an_eq, zk_if_eq]
    dsimp only
    cases ab_mat T o.2.2.2.1 X.2.2.1 X.2.2.2.2.1 <;> rfl
  | false =>
    have e : fz_en T n0 X o = false := by
      delta fz_en
      rw [hp, zk_if_eq]
      rfl
    rw [e]
    unfold ab_en
    cases hm : ab_mat T o.2.2.2.1 X.2.2.1 X.2.2.2.2.1 with
    | none => rfl
    | some r =>
      obtain ⟨B1, D1⟩ := r
      dsimp only
      cases hv : ab_vf (ab_gs n0 [] o.1 o.2.1 o.2.2.2.1 [] X.2.1 D1) [] o.1 o.2.1 o.2.2.1 o.2.2.2.1 o.2.2.2.2 [] X.2.1 B1 X.2.2.2.1 D1 X.2.2.2.2.2 with
      | false => rfl
      | true => rw [fz_pre_ok hm hv] at hp; cases hp
def fz_rk (rk : Nat) (B : ab_BD) (i : Instr) (S : List ab_AV) : Bool := match i, S with
  | .ireturn, [(0, s, c)] => rk.beq 0 || (rk.beq 1 && fz_fit B 3 s c)
  | .lreturn, [(1, _, _)] => rk.beq 2
  | .areturn, [a] => rk.beq 3 && (2 : Nat).ble a.1
  | .return_, [] => rk.beq 4
  | _, _ => false
theorem fz_rk_eq : @fz_rk = @ab_rk := by
  delta fz_rk ab_rk
  rw [fz_fit_eq]
  first | done | rfl
def fz_rt (T : ab_RG) (n0 : Nat) (os : List ab_OU) (rk : Nat) (i : Instr) (len : Nat) (X : ab_AS) : Bool := (zk_an (len.beq 1) (zk_an (fz_rk rk X.2.2.1 i X.2.1) (zk_any (fz_en T n0 X) os)))
theorem fz_rt_eq : @fz_rt = @ab_rt := by
  delta fz_rt ab_rt
  rw [fz_rk_eq, fz_en_eq, zk_an_eq, zk_any_eq]
  simp only [Bool.and_assoc]
def fz_sx (sc : Nat) (i : Instr) (len : Nat) (S : List ab_AV) (B : ab_BD) (F : ab_FT) (Dl : ab_DL) (M : ab_ML) : Option (List ab_AV × ab_BD × ab_DL) := match i with
  | .iaload => match S with
    | (0, s, c) :: (5, k, _) :: S => cond (len.beq 1 && sc.beq 1 && k.beq 999 && fz_le 0 (fz_lo B s + c) && fz_in B s c && fz_le (fz_ub B F s 1 + c) (-1))
      (match cond (fz_le 0 c && fz_le c 999 && M.all (fun q => !(q.1.beq 140))) (some (2000000 + 1000 * s + c.toNat)) none with
        | some j => (match fz_dk Dl 140 j with
          | some q => some ((0, q.1, q.2) :: S, B, Dl)
          | none => some ((0, B.length, 0) :: S, B ++ [(-2147483648, 2147483647)], ((140, j), (B.length, 0)) :: Dl))
        | none => some ((0, B.length, 0) :: S, B ++ [(-2147483648, 2147483647)], Dl)) none
    | _ => none
  | .arraylength => match S with
    | (5, k, _) :: S => cond (len.beq 1 && sc.beq 1 && k.beq 999) (some ((0, 1, 0) :: S, B, Dl)) none
    | _ => none
  | _ => none
theorem fz_sx_eq : @fz_sx = @ab_sx := by
  delta fz_sx ab_sx
  rw [fz_le_eq, fz_lo_eq, fz_in_eq, fz_ub_eq, fz_dk_eq]
  first | done | rfl
def fz_dl (l : (List (Nat × Instr × Nat × Nat))) (i : Nat) : Option (Instr × Nat × Nat) := (List.rec (motive := fun _ => Option (Instr × Nat × Nat)) none (fun q _ ih => (zk_if (q.1.beq i) (some q.2) ih)) l)
theorem fz_dl_eq : @fz_dl = @ab_dl := by
  funext l i
  induction l with
  | nil => rfl
  | cons q l ih =>
    have e : fz_dl (q :: l) i = zk_if (q.1.beq i) (some q.2) (fz_dl l i) := rfl
    rw [e, ih, zk_if_eq]; rfl
def fz_dec (dt : ab_DT) (pc : Nat) : Option (Instr × Nat × Nat) := (match (zk_get dt (pc / 16)) with | some l => fz_dl l pc | none => none)
theorem fz_dec_eq : @fz_dec = @ab_dec := by
  delta fz_dec ab_dec
  rw [fz_dl_eq, zk_get_eq]
  first | done | rfl
def fz_s0 (cl : List vw_C) (T : ab_RG) (C : ab_CT) (sh : List ab_SP) (MT : List ab_MR) (KI KJ : List (Nat × Int)) (PF : ab_PT) (kd : ab_KD) (PS : ab_PS) (PM : ab_PC2) (KS : ab_KS) (lev sc : Nat) (dt : ab_DT) (nL n0 : Nat) (os : List ab_OU) (rk : Nat) (sp : List Nat) (pc : Nat) (X : ab_AS) (i : Instr) (len : Nat) : Option (List (Nat × ab_AS)) := (match (fz_pu KI KJ nL i len X.1 X.2.1 X.2.2.1 X.2.2.2.1) with | some r => some [(Nat.add pc len, (r.1, r.2.1, r.2.2.1, r.2.2.2, X.2.2.2.2))] | none => none)
def fz_s1 (cl : List vw_C) (T : ab_RG) (C : ab_CT) (sh : List ab_SP) (MT : List ab_MR) (KI KJ : List (Nat × Int)) (PF : ab_PT) (kd : ab_KD) (PS : ab_PS) (PM : ab_PC2) (KS : ab_KS) (lev sc : Nat) (dt : ab_DT) (nL n0 : Nat) (os : List ab_OU) (rk : Nat) (sp : List Nat) (pc : Nat) (X : ab_AS) (i : Instr) (len : Nat) : Option (List (Nat × ab_AS)) := (match (fz_hp cl T C sh PF i len X.2.1 X.2.2.1 X.2.2.2.1 X.2.2.2.2.1 X.2.2.2.2.2) with | some r => some [(Nat.add pc len, (X.1, r.1, r.2.1, X.2.2.2.1, r.2.2.1, r.2.2.2))] | none => (match (fz_ks kd PS i len X.2.1 X.2.2.1) with | some r => some [(Nat.add pc len, (X.1, r.1, r.2, X.2.2.2))] | none => (match (fz_sx sc i len X.2.1 X.2.2.1 X.2.2.2.1 X.2.2.2.2.1 X.2.2.2.2.2) with | some r => some [(Nat.add pc len, (X.1, r.1, r.2.1, X.2.2.2.1, r.2.2, X.2.2.2.2.2))] | none => none)))
def fz_s2 (cl : List vw_C) (T : ab_RG) (C : ab_CT) (sh : List ab_SP) (MT : List ab_MR) (KI KJ : List (Nat × Int)) (PF : ab_PT) (kd : ab_KD) (PS : ab_PS) (PM : ab_PC2) (KS : ab_KS) (lev sc : Nat) (dt : ab_DT) (nL n0 : Nat) (os : List ab_OU) (rk : Nat) (sp : List Nat) (pc : Nat) (X : ab_AS) (i : Instr) (len : Nat) : Option (List (Nat × ab_AS)) := (match (fz_br (zk_any (fun x => (x.beq pc)) sp) pc i len (match (fz_dec dt (Nat.succ pc)) with | some q => some (q.1, q.2.1) | none => none) X.2.1 X.2.2.1 X.2.2.2.1) with | some l => some (zk_map (fun q => (q.1, (X.1, q.2.1, q.2.2.1, q.2.2.2, X.2.2.2.2))) l) | none => none)
def fz_s3 (cl : List vw_C) (T : ab_RG) (C : ab_CT) (sh : List ab_SP) (MT : List ab_MR) (KI KJ : List (Nat × Int)) (PF : ab_PT) (kd : ab_KD) (PS : ab_PS) (PM : ab_PC2) (KS : ab_KS) (lev sc : Nat) (dt : ab_DT) (nL n0 : Nat) (os : List ab_OU) (rk : Nat) (sp : List Nat) (pc : Nat) (X : ab_AS) (i : Instr) (len : Nat) : Option (List (Nat × ab_AS)) := (match (fz_cl T MT PM KS lev i len X) with | some l => some (zk_map (fun x => (Nat.add pc 3, x)) l) | none => (match (fz_mo (zk_any (fun x => (x.beq pc)) sp) PS lev pc i len X.2.1 X.2.2.1 X.2.2.2.1) with | some l => some (zk_map (fun q => (q.1, (X.1, q.2.1, q.2.2.1, q.2.2.2, X.2.2.2.2))) l) | none => none))
def fz_s4 (cl : List vw_C) (T : ab_RG) (C : ab_CT) (sh : List ab_SP) (MT : List ab_MR) (KI KJ : List (Nat × Int)) (PF : ab_PT) (kd : ab_KD) (PS : ab_PS) (PM : ab_PC2) (KS : ab_KS) (lev sc : Nat) (dt : ab_DT) (nL n0 : Nat) (os : List ab_OU) (rk : Nat) (sp : List Nat) (pc : Nat) (X : ab_AS) (i : Instr) (len : Nat) : Option (List (Nat × ab_AS)) := (match (fz_ks kd PS i len X.2.1 X.2.2.1) with | some r => some [(Nat.add pc len, (X.1, r.1, r.2, X.2.2.2))] | none => none)
def fz_s5 (cl : List vw_C) (T : ab_RG) (C : ab_CT) (sh : List ab_SP) (MT : List ab_MR) (KI KJ : List (Nat × Int)) (PF : ab_PT) (kd : ab_KD) (PS : ab_PS) (PM : ab_PC2) (KS : ab_KS) (lev sc : Nat) (dt : ab_DT) (nL n0 : Nat) (os : List ab_OU) (rk : Nat) (sp : List Nat) (pc : Nat) (X : ab_AS) (i : Instr) (len : Nat) : Option (List (Nat × ab_AS)) := (match (fz_mo (zk_any (fun x => (x.beq pc)) sp) PS lev pc i len X.2.1 X.2.2.1 X.2.2.2.1) with | some l => some (zk_map (fun q => (q.1, (X.1, q.2.1, q.2.2.1, q.2.2.2, X.2.2.2.2))) l) | none => none)
def fz_s6 (cl : List vw_C) (T : ab_RG) (C : ab_CT) (sh : List ab_SP) (MT : List ab_MR) (KI KJ : List (Nat × Int)) (PF : ab_PT) (kd : ab_KD) (PS : ab_PS) (PM : ab_PC2) (KS : ab_KS) (lev sc : Nat) (dt : ab_DT) (nL n0 : Nat) (os : List ab_OU) (rk : Nat) (sp : List Nat) (pc : Nat) (X : ab_AS) (i : Instr) (len : Nat) : Option (List (Nat × ab_AS)) := (zk_if (fz_rt T n0 os rk i len X) (some []) none)
def fz_sd (cl : List vw_C) (T : ab_RG) (C : ab_CT) (sh : List ab_SP) (MT : List ab_MR) (KI KJ : List (Nat × Int)) (PF : ab_PT) (kd : ab_KD) (PS : ab_PS) (PM : ab_PC2) (KS : ab_KS) (lev sc : Nat) (dt : ab_DT) (nL n0 : Nat) (os : List ab_OU) (rk : Nat) (sp : List Nat) (pc : Nat) (X : ab_AS) (i : Instr) (len h : Nat) : Option (List (Nat × ab_AS)) := (Nat.rec (motive := fun _ => Option (List (Nat × ab_AS))) (fz_s0 cl T C sh MT KI KJ PF kd PS PM KS lev sc dt nL n0 os rk sp pc X i len) (fun n _ => (Nat.rec (motive := fun _ => Option (List (Nat × ab_AS))) (fz_s1 cl T C sh MT KI KJ PF kd PS PM KS lev sc dt nL n0 os rk sp pc X i len) (fun n _ => (Nat.rec (motive := fun _ => Option (List (Nat × ab_AS))) (fz_s2 cl T C sh MT KI KJ PF kd PS PM KS lev sc dt nL n0 os rk sp pc X i len) (fun n _ => (Nat.rec (motive := fun _ => Option (List (Nat × ab_AS))) (fz_s3 cl T C sh MT KI KJ PF kd PS PM KS lev sc dt nL n0 os rk sp pc X i len) (fun n _ => (Nat.rec (motive := fun _ => Option (List (Nat × ab_AS))) (fz_s4 cl T C sh MT KI KJ PF kd PS PM KS lev sc dt nL n0 os rk sp pc X i len) (fun n _ => (Nat.rec (motive := fun _ => Option (List (Nat × ab_AS))) (fz_s5 cl T C sh MT KI KJ PF kd PS PM KS lev sc dt nL n0 os rk sp pc X i len) (fun _ _ => (fz_s6 cl T C sh MT KI KJ PF kd PS PM KS lev sc dt nL n0 os rk sp pc X i len)) n)) n)) n)) n)) n)) h)
def fz_st (cl : List vw_C) (T : ab_RG) (C : ab_CT) (sh : List ab_SP) (MT : List ab_MR) (KI KJ : List (Nat × Int)) (PF : ab_PT) (kd : ab_KD) (PS : ab_PS) (PM : ab_PC2) (KS : ab_KS) (lev sc : Nat) (dt : ab_DT) (nL n0 : Nat) (os : List ab_OU) (rk : Nat) (sp : List Nat) (pc : Nat) (X : ab_AS) : Option (List (Nat × ab_AS)) := (match (fz_dec dt pc) with | some e => fz_sd cl T C sh MT KI KJ PF kd PS PM KS lev sc dt nL n0 os rk sp pc X e.1 e.2.1 e.2.2 | none => none)
theorem fz_st_eq : @fz_st = @ab_st := by
  funext cl T C sh MT KI KJ PF kd PS PM KS lev sc dt nL n0 os rk sp pc X
  delta fz_st fz_sd fz_s0 fz_s1 fz_s2 fz_s3 fz_s4 fz_s5 fz_s6 ab_st
  rw [fz_dec_eq, fz_pu_eq, fz_hp_eq, fz_ks_eq, fz_sx_eq, fz_br_eq, fz_mo_eq, fz_cl_eq, fz_rt_eq, zk_map_eq, zk_any_eq, zk_if_eq]
  dsimp only
  cases ab_dec dt pc with
  | none => rfl
  | some e =>
    obtain ⟨i, len, h⟩ := e
    match h with
    | 0 => rfl
    | 1 => rfl
    | 2 => rfl
    | 3 => rfl
    | 4 => rfl
    | 5 => rfl
    | n + 6 => rfl
def fz_hit1 (n0 : Nat) (X : ab_AS) (nd : ab_ND) (B : ab_BD) (Dl : ab_DL) (θ : ab_TH) : Option (ab_BD × ab_TH) := (zk_if (zk_an (fz_vf θ nd.2.1.1 nd.2.1.2.1 nd.2.1.2.2.1 nd.2.1.2.2.2.1 nd.2.1.2.2.2.2.1 nd.2.1.2.2.2.2.2 X.1 X.2.1 B X.2.2.2.1 Dl X.2.2.2.2.2) (fz_rid n0 0 θ)) (some (B, θ)) none)
def fz_hit0 (T : ab_RG) (n0 : Nat) (X : ab_AS) (nd : ab_ND) : Option (ab_BD × ab_TH) := (zk_if (fz_pre nd.2.1.1 nd.2.1.2.1 nd.2.1.2.2.1 nd.2.1.2.2.2.2.1 X.1 X.2.1 X.2.2.1 X.2.2.2.2.1) (match (fz_mat T nd.2.1.2.2.2.2.1 X.2.2.1 X.2.2.2.2.1) with | some r => fz_hit1 n0 X nd r.1 r.2 (fz_gs n0 nd.2.1.1 nd.2.1.2.1 nd.2.1.2.2.1 nd.2.1.2.2.2.2.1 X.1 X.2.1 r.2) | none => none) none)
theorem fz_hit0_eq : @fz_hit0 = @ab_hit0 := by
  funext T n0 X nd
  cases hp : fz_pre nd.2.1.1 nd.2.1.2.1 nd.2.1.2.2.1 nd.2.1.2.2.2.2.1 X.1 X.2.1 X.2.2.1 X.2.2.2.2.1 with
  | true =>
    delta fz_hit0 fz_hit1 ab_hit0
    rw [hp, fz_mat_eq, fz_gs_eq, fz_vf_eq, fz_rid_eq, zk_an_eq, zk_if_eq]
    dsimp only
    cases ab_mat T nd.2.1.2.2.2.2.1 X.2.2.1 X.2.2.2.2.1 <;> rfl
  | false =>
    have e : fz_hit0 T n0 X nd = none := by
      delta fz_hit0
      rw [hp, zk_if_eq]
      rfl
    rw [e]
    unfold ab_hit0
    cases hm : ab_mat T nd.2.1.2.2.2.2.1 X.2.2.1 X.2.2.2.2.1 with
    | none => rfl
    | some r =>
      obtain ⟨B1, D1⟩ := r
      dsimp only
      cases hv : ab_vf (ab_gs n0 nd.2.1.1 nd.2.1.2.1 nd.2.1.2.2.1 nd.2.1.2.2.2.2.1 X.1 X.2.1 D1) nd.2.1.1 nd.2.1.2.1 nd.2.1.2.2.1 nd.2.1.2.2.2.1 nd.2.1.2.2.2.2.1 nd.2.1.2.2.2.2.2 X.1 X.2.1 B1 X.2.2.2.1 D1 X.2.2.2.2.2 with
      | false => rfl
      | true => rw [fz_pre_ok hm hv] at hp; cases hp
def fz_hit (T : ab_RG) (n0 : Nat) (mu : ab_M3) (X : ab_AS) (nd : ab_ND) : Bool := match fz_hit0 T n0 X nd with
  | some (B1, θ) => (ab_mok θ.length nd.2.2.1 && ab_mok θ.length nd.2.2.2.1 && ab_mok θ.length nd.2.2.2.2) && fz_fall B1 X.2.2.2.1 (fz_msb θ nd.2.2.1, fz_msb θ nd.2.2.2.1, fz_msb θ nd.2.2.2.2) mu
  | none => false
theorem fz_hit_eq : @fz_hit = @ab_hit := by
  delta fz_hit ab_hit
  rw [fz_hit0_eq, fz_fall_eq, fz_msb_eq]
  first | done | rfl
def fz_hitE (T : ab_RG) (n0 : Nat) (X : ab_AS) (nd : ab_ND) : Bool := match fz_hit0 T n0 X nd with
  | some _ => true
  | none => false
theorem fz_hitE_eq : @fz_hitE = @ab_hitE := by
  delta fz_hitE ab_hitE
  rw [fz_hit0_eq]
  first | done | rfl
def fz_c1 (s : Nat) (v : Int) (a : ab_AV) : ab_AV := (zk_if (zk_an (a.2.1.beq s) (zk_or (a.1.beq 0) (zk_or (a.1.beq 1) (a.1.beq 4)))) (a.1, 0, zk_add v a.2.2) a)
theorem fz_c1_eq : @fz_c1 = @ab_c1 := by
  funext s v a
  delta fz_c1 ab_c1
  rw [zk_if_eq, zk_an_eq, zk_or_eq, zk_add_eq]
  obtain ⟨t, x, c⟩ := a
  dsimp only
  cases x.beq s with
  | false =>
    match t with
    | 0 => rfl
    | 1 => rfl
    | 2 => rfl
    | 3 => rfl
    | 4 => rfl
    | n + 5 => rfl
  | true =>
    match t with
    | 0 => rfl
    | 1 => rfl
    | 2 => rfl
    | 3 => rfl
    | 4 => rfl
    | n + 5 => rfl
def fz_cX (s : Nat) (v : Int) (X : ab_AS) : ab_AS := (zk_map (fun q => (q.1, fz_c1 s v q.2)) X.1, zk_map (fz_c1 s v) X.2.1, zk_set X.2.2.1 s (v, v), X.2.2.2.1, zk_map (fun d => (zk_if (d.2.1.beq s) (d.1, (0, zk_add v d.2.2)) d)) X.2.2.2.2.1, X.2.2.2.2.2)
theorem fz_cX_eq : @fz_cX = @ab_cX := by
  delta fz_cX ab_cX
  rw [fz_c1_eq, zk_map_eq, zk_set_eq, zk_if_eq, zk_add_eq]
  first | done | rfl
def fz_vs (s : Nat) (X : ab_AS) (n : Nat) (v : Int) : List ab_AS := (Nat.rec (motive := fun _ => Int → List ab_AS) (fun _ => []) (fun _ ih v => fz_cX s v X :: ih (zk_add v 1)) n) v
theorem fz_vs_eq : @fz_vs = @ab_vs := by
  funext s X n
  induction n with
  | zero => rfl
  | succ n ih =>
    funext v
    have e : fz_vs s X (n + 1) v = fz_cX s v X :: fz_vs s X n (zk_add v 1) := rfl
    rw [e, ih, fz_cX_eq, zk_add_eq]
    rfl
def fz_spl (s : Nat) (X : ab_AS) : List ab_AS := cond (s.beq 0 || !((s + 1).ble X.2.2.1.length)) [X] (fz_vs s X (fz_hi X.2.2.1 s - fz_lo X.2.2.1 s + 1).toNat (fz_lo X.2.2.1 s))
theorem fz_spl_eq : @fz_spl = @ab_spl := by
  delta fz_spl ab_spl
  rw [fz_vs_eq, fz_hi_eq, fz_lo_eq]
  first | done | rfl
def fz_ua (X : ab_AS) (B : ab_BD) (Dl : ab_DL) (a : ab_AT) : List ab_AS := match fz_pd Dl a.1, fz_pd Dl a.2.1 with
  | some s, some t => (match fz_asm B X.2.2.2.1 s.1 t.1 (a.2.2 - s.2 + t.2) with
    | some r => [(X.1, X.2.1, r.1, r.2, Dl, X.2.2.2.2.2)]
    | none => [])
  | _, _ => [(X.1, X.2.1, B, X.2.2.2.1, Dl, X.2.2.2.2.2)]
theorem fz_ua_eq : @fz_ua = @ab_ua := by
  delta fz_ua ab_ua
  rw [fz_pd_eq, fz_asm_eq]
  first | done | rfl
def fz_ivs (s : Nat) (X : ab_AS) (c : Int) (n : Nat) (v : Int) : List ab_AS := (Nat.rec (motive := fun _ => Int → List ab_AS) (fun _ => []) (fun _ ih v => (X.1, X.2.1, zk_set X.2.2.1 s (fz_max (fz_lo X.2.2.1 s) v, fz_min (fz_hi X.2.2.1 s) (zk_sub (zk_add v c) 1)), X.2.2.2) :: ih (zk_add v c)) n) v
theorem fz_ivs_eq : @fz_ivs = @ab_ivs := by
  funext s X c n
  induction n with
  | zero => rfl
  | succ n ih =>
    funext v
    have e : fz_ivs s X c (n + 1) v = (X.1, X.2.1, zk_set X.2.2.1 s (fz_max (fz_lo X.2.2.1 s) v, fz_min (fz_hi X.2.2.1 s) (zk_sub (zk_add v c) 1)), X.2.2.2) :: fz_ivs s X c n (zk_add v c) := rfl
    rw [e, ih, fz_max_eq, fz_lo_eq, fz_min_eq, fz_hi_eq, zk_set_eq, zk_sub_eq, zk_add_eq]
    rfl
def fz_cq (row : ab_CR) (i : Nat) : Option (List ab_AT) := (match (zk_get row (i / 1000)) with | some z => zk_get z.2.2 (i % 1000) | none => none)
theorem fz_cq_eq : @fz_cq = @ab_cq := by
  delta fz_cq ab_cq
  rw [zk_get_eq]
  first | done | rfl
def fz_hu (T : ab_RG) (C : ab_CT) (k i : Nat) (X : ab_AS) : Option (List ab_AS) := match C[k]? with
  | some row => (match fz_cq row i with
    | some q => (match fz_mat T (ab_qp q) X.2.2.1 X.2.2.2.2.1 with
      | some (B, Dl) => some (cond (q.any (fz_atk B X.2.2.2.1 Dl)) [(X.1, X.2.1, B, X.2.2.2.1, Dl, X.2.2.2.2.2)] (q.flatMap (fz_ua X B Dl)))
      | none => none)
    | none => none)
  | none => none
theorem fz_hu_eq : @fz_hu = @ab_hu := by
  delta fz_hu ab_hu
  rw [fz_cq_eq, fz_mat_eq, fz_atk_eq, fz_ua_eq]
  first | done | rfl
def fz_h6 (src : Nat) (X : ab_AS) : Option Int := cond (src.ble 1999) (match cond (src.ble 999) (fz_lk X.1 src) (X.2.1[src - 1000]?) with
  | some (0, s, c) => cond (s.beq 0) (some c) none
  | _ => none) (match fz_dk X.2.2.2.2.1 93 (src - 2000) with
  | some q => cond (q.1.beq 0) (some q.2) none
  | none => none)
theorem fz_h6_eq : @fz_h6 = @ab_h6 := by
  delta fz_h6 ab_h6
  rw [fz_lk_eq, fz_dk_eq]
  first | done | rfl
def fz_h10 (i : Nat) (c : Int) (X : ab_AS) : Option (List ab_AS) := match fz_lk X.1 i with
  | some (0, s, _) => cond ((s + 1).ble X.2.2.1.length && fz_le 1 c) (some (fz_ivs s X c ((fz_hi X.2.2.1 s - fz_lo X.2.2.1 s).toNat / c.toNat + 1) (fz_lo X.2.2.1 s))) none
  | _ => none
theorem fz_h10_eq : @fz_h10 = @ab_h10 := by
  delta fz_h10 ab_h10
  rw [fz_lk_eq, fz_le_eq, fz_ivs_eq, fz_hi_eq, fz_lo_eq]
  first | done | rfl
def fz_h1 (T : ab_RG) (C : ab_CT) (sh : List ab_SP) (h : ab_HT) (X : ab_AS) : Option (List ab_AS) := match h with
  | (0, i, _, _) => (match fz_lk X.1 i with
    | some (0, s, _) => some (fz_spl s X)
    | some (1, s, _) => some (fz_spl s X)
    | _ => none)
  | (1, k, j, _) => (match fz_get T k j j 0 X.2.2.1 X.2.2.2.2.1 with
    | some (q, B, Dl) => some (fz_spl q.1 (X.1, X.2.1, B, X.2.2.2.1, Dl, X.2.2.2.2.2))
    | none => none)
  | (2, k, i, _) => fz_hu T C k i X
  | (3, j, _, c) => cond (sh.length.ble 130) (match fz_set T C ab_GC j j 0 c X.2.2.1 X.2.2.2.1 X.2.2.2.2.1 X.2.2.2.2.2 with
    | some (Dl, M) => some [(X.1, X.2.1, X.2.2.1, X.2.2.2.1, Dl, M)]
    | none => none) none
  | (4, j, _, c) => cond (sh.length.ble 130) (match fz_get T ab_GC j j 0 X.2.2.1 X.2.2.2.2.1 with
    | some (q, B, Dl) => (match fz_set T C ab_GC j j q.1 (q.2 + c) B X.2.2.2.1 Dl X.2.2.2.2.2 with
      | some (Dl2, M) => some [(X.1, X.2.1, B, X.2.2.2.1, Dl2, M)]
      | none => none)
    | none => none) none
  | (5, _, _, _) => cond (X.2.2.2.1.all (fun f => !(f.1.beq f.2.1))) (some (cond (fz_no (fz_tgt X.2.2.2.1 X.2.2.1)) [] [(X.1, X.2.1, fz_tgt X.2.2.2.1 X.2.2.1, X.2.2.2.1, X.2.2.2.2)])) none
  | (6, k, src, c) => (match fz_h6 src X with
    | some v => fz_hu T C k (c + v).toNat X
    | none => some [X])
  | (7, i, _, _) => (match X.2.1[i]? with
    | some (0, s, _) => some (fz_spl s X)
    | some (1, s, _) => some (fz_spl s X)
    | _ => none)
  | (10, i, _, c) => fz_h10 i c X
  | (9, a, _, _) => some [(X.1, X.2.1, X.2.2.1, ab_chn a X.2.2.2.1 ++ X.2.2.2.1, X.2.2.2.2)]
  | _ => none
theorem fz_h1_eq : @fz_h1 = @ab_h1 := by
  delta fz_h1 ab_h1
  rw [fz_lk_eq, fz_spl_eq, fz_get_eq, fz_hu_eq, fz_set_eq, fz_no_eq, fz_tgt_eq, fz_h6_eq, fz_h10_eq]
  first | done | rfl
def fz_cat2 (f : ab_AS → Option (List ab_AS)) (l : List ab_AS) : Option (List ab_AS) := (List.rec (motive := fun _ => Option (List ab_AS)) (some []) (fun x _ ih => (match (f x) with | some a => (match ih with | some b => some (zk_app a b) | none => none) | none => none)) l)
theorem fz_cat2_eq : @fz_cat2 = @ab_cat2 := by
  funext f l
  induction l with
  | nil => rfl
  | cons x l ih =>
    have e : fz_cat2 f (x :: l) = (match f x with | some a => (match fz_cat2 f l with | some b => some (zk_app a b) | none => none) | none => none) := rfl
    rw [e, ih, zk_app_eq]
    show _ = (match f x, ab_cat2 f l with | some a, some b => some (a ++ b) | _, _ => none)
    cases f x <;> cases ab_cat2 f l <;> rfl
def fz_hs (T : ab_RG) (C : ab_CT) (sh : List ab_SP) (hs : List ab_HT) (X : ab_AS) : Option (List ab_AS) := (List.rec (motive := fun _ => ab_AS → Option (List ab_AS)) (fun X => some [X]) (fun h _ ih X => (match (fz_h1 T C sh h X) with | some l => fz_cat2 ih l | none => none)) hs) X
theorem fz_hs_eq : @fz_hs = @ab_hs := by
  funext T C sh hs
  induction hs with
  | nil => rfl
  | cons h hs ih =>
    funext X
    have e : fz_hs T C sh (h :: hs) X = (match fz_h1 T C sh h X with | some l => fz_cat2 (fz_hs T C sh hs) l | none => none) := rfl
    rw [e, ih, fz_cat2_eq, fz_h1_eq]
    show _ = (match ab_h1 T C sh h X with | some l => ab_cat2 (ab_hs T C sh hs) l | none => none)
    cases ab_h1 T C sh h X <;> rfl
def fz_hx (T : ab_RG) (C : ab_CT) (sh : List ab_SP) (HN : ab_HH) (pc : Nat) (X : ab_AS) : Option (List ab_AS) := (match (zk_find (fun h => h.1.beq pc) HN) with | some h => fz_hs T C sh h.2 X | none => (some [X]))
theorem fz_hx_eq : @fz_hx = @ab_hx := by
  delta fz_hx ab_hx
  rw [fz_hs_eq, zk_find_eq]
  first | done | rfl
def fz_go1 (cl : List vw_C) (T : ab_RG) (C : ab_CT) (sh : List ab_SP) (MT : List ab_MR) (KI KJ : List (Nat × Int)) (PF : ab_PT) (kd : ab_KD) (PS : ab_PS) (PM : ab_PC2) (KS : ab_KS) (lev sc : Nat) (dt : ab_DT) (nL n0 : Nat) (os : List ab_OU) (rk : Nat) (sp : List Nat) (kk : Nat → ab_AS → Bool) (pc : Nat) (X : ab_AS) : Bool := (match (fz_st cl T C sh MT KI KJ PF kd PS PM KS lev sc dt nL n0 os rk sp pc X) with | some l => (zk_all (fun q => (kk q.1 q.2)) l) | none => false)
def fz_go2 (cl : List vw_C) (T : ab_RG) (C : ab_CT) (sh : List ab_SP) (MT : List ab_MR) (KI KJ : List (Nat × Int)) (PF : ab_PT) (kd : ab_KD) (PS : ab_PS) (PM : ab_PC2) (KS : ab_KS) (lev sc : Nat) (dt : ab_DT) (nL n0 : Nat) (os : List ab_OU) (rk : Nat) (sp : List Nat) (HD : List Nat) (HN : ab_HH) (EX NS : List ab_ND) (mu : ab_M3) (kk : Nat → ab_AS → Bool) (pc : Nat) (X : ab_AS) : Bool := (zk_or (zk_any (fun nd => (zk_an (nd.1.beq pc) (fz_hitE T n0 X nd))) EX) (zk_or (zk_any (fun nd => (zk_an (nd.1.beq pc) (fz_hit T n0 mu X nd))) NS) (match (fz_hx T C sh HN pc X) with | some xs => (zk_all (fun x => (fz_go1 cl T C sh MT KI KJ PF kd PS PM KS lev sc dt nL n0 os rk sp kk pc x)) xs) | none => false)))
def fz_run (cl : List vw_C) (T : ab_RG) (C : ab_CT) (sh : List ab_SP) (MT : List ab_MR) (KI KJ : List (Nat × Int)) (PF : ab_PT) (kd : ab_KD) (PS : ab_PS) (PM : ab_PC2) (KS : ab_KS) (lev sc : Nat) (dt : ab_DT) (nL n0 : Nat) (os : List ab_OU) (rk : Nat) (sp : List Nat) (HD : List Nat) (HN : ab_HH) (EX NS : List ab_ND) (mu : ab_M3) (f pc : Nat) (X : ab_AS) : Bool := (Nat.rec (motive := fun _ => Nat → ab_AS → Bool) (fun _ _ => false) (fun _ ih pc X => (zk_if (zk_any (fun h => (h.beq pc)) HD) (fz_go2 cl T C sh MT KI KJ PF kd PS PM KS lev sc dt nL n0 os rk sp HD HN EX NS mu ih pc X) (fz_go1 cl T C sh MT KI KJ PF kd PS PM KS lev sc dt nL n0 os rk sp ih pc X))) f) pc X
theorem fz_run_eq : @fz_run = @ab_run := by
  funext cl T C sh MT KI KJ PF kd PS PM KS lev sc dt nL n0 os rk sp HD HN EX NS mu f
  induction f with
  | zero => rfl
  | succ f ih =>
    funext pc X
    have e : fz_run cl T C sh MT KI KJ PF kd PS PM KS lev sc dt nL n0 os rk sp HD HN EX NS mu (f + 1) pc X = zk_if (zk_any (fun h => h.beq pc) HD) (fz_go2 cl T C sh MT KI KJ PF kd PS PM KS lev sc dt nL n0 os rk sp HD HN EX NS mu (fz_run cl T C sh MT KI KJ PF kd PS PM KS lev sc dt nL n0 os rk sp HD HN EX NS mu f) pc X) (fz_go1 cl T C sh MT KI KJ PF kd PS PM KS lev sc dt nL n0 os rk sp (fz_run cl T C sh MT KI KJ PF kd PS PM KS lev sc dt nL n0 os rk sp HD HN EX NS mu f) pc X) := rfl
    rw [e, ih]
    delta fz_go2 fz_go1
    rw [zk_any_eq, zk_all_eq, fz_hitE_eq, fz_hit_eq, fz_hx_eq, fz_st_eq, zk_an_eq, zk_or_eq, zk_if_eq]
    dsimp only
    have e2 : ab_run cl T C sh MT KI KJ PF kd PS PM KS lev sc dt nL n0 os rk sp HD HN EX NS mu (f + 1) pc X = cond (HD.any (fun h => h.beq pc)) (EX.any (fun nd => nd.1.beq pc && ab_hitE T n0 X nd) || NS.any (fun nd => nd.1.beq pc && ab_hit T n0 mu X nd) || (match ab_hx T C sh HN pc X with | some xs => xs.all (fun X' => match ab_st cl T C sh MT KI KJ PF kd PS PM KS lev sc dt nL n0 os rk sp pc X' with | some l => l.all (fun q => ab_run cl T C sh MT KI KJ PF kd PS PM KS lev sc dt nL n0 os rk sp HD HN EX NS mu f q.1 q.2) | none => false) | none => false)) (match ab_st cl T C sh MT KI KJ PF kd PS PM KS lev sc dt nL n0 os rk sp pc X with | some l => l.all (fun q => ab_run cl T C sh MT KI KJ PF kd PS PM KS lev sc dt nL n0 os rk sp HD HN EX NS mu f q.1 q.2) | none => false) := rfl
    rw [e2, Bool.or_assoc]
    first | done | rfl
def fz_cn (cl : List vw_C) (T : ab_RG) (C : ab_CT) (sh : List ab_SP) (MT : List ab_MR) (KI KJ : List (Nat × Int)) (PF : ab_PT) (kd : ab_KD) (PS : ab_PS) (PM : ab_PC2) (KS : ab_KS) (lev sc : Nat) (dt : ab_DT) (nL n0 : Nat) (os : List ab_OU) (rk : Nat) (sp : List Nat) (HD : List Nat) (HN : ab_HH) (EX NS : List ab_ND) (fuel : Nat) (nd : ab_ND) : Bool := (zk_an (ab_mok (zk_len nd.2.1.2.2.1) nd.2.2.1) (zk_an (ab_mok (zk_len nd.2.1.2.2.1) nd.2.2.2.1) (zk_an (ab_mok (zk_len nd.2.1.2.2.1) nd.2.2.2.2) (match (fz_hx T C sh HN nd.1 nd.2.1) with | some xs => (zk_all (fun x => (fz_go1 cl T C sh MT KI KJ PF kd PS PM KS lev sc dt nL n0 os rk sp (fz_run cl T C sh MT KI KJ PF kd PS PM KS lev sc dt nL n0 os rk sp HD HN EX NS nd.2.2 fuel) nd.1 x)) xs) | none => false))))
theorem fz_cn_eq : @fz_cn = @ab_cn := by
  funext cl T C sh MT KI KJ PF kd PS PM KS lev sc dt nL n0 os rk sp HD HN EX NS fuel nd
  delta fz_cn fz_go1 ab_cn
  rw [zk_len_eq, zk_all_eq, fz_hx_eq, fz_st_eq, fz_run_eq, zk_an_eq]
  dsimp only
  rw [Bool.and_assoc, Bool.and_assoc]
  first | done | rfl
end
