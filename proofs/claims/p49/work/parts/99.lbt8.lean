/-! odds: what of a group she knows, by how many (polynomials as functions of the place), once as the reference sums it, once as the class does -/
def oz_mul (k : Int) (c : Nat → Int) : Nat → Int
  | 0 => (9 - k) * c 0
  | j + 1 => (9 - k) * c (j + 1) + k * c j
def oz_one : Nat → Int
  | 0 => 1
  | _ + 1 => 0
/-- of those below Y for which P holds: in how many of 9 to the so many ways she knows j -/
def oz_w (κ : Nat → Int) (P : Nat → Bool) : Nat → Nat → Int
  | 0 => oz_one
  | y + 1 => cond (P y) (oz_mul (κ y) (oz_w κ P y)) (oz_w κ P y)
def oz_sum (f : Nat → Int) : Nat → Int
  | 0 => 0
  | n + 1 => oz_sum f n + f n
def oz_cnt (P : Nat → Bool) : Nat → Nat
  | 0 => 0
  | y + 1 => cond (P y) (oz_cnt P y + 1) (oz_cnt P y)
/-- in how many ways she knows none -/
def oz_non (κ : Nat → Int) (P : Nat → Bool) : Nat → Int
  | 0 => 1
  | y + 1 => cond (P y) (oz_non κ P y * (9 - κ y)) (oz_non κ P y)
def oz_but (P : Nat → Bool) (x : Nat) : Nat → Bool := fun y => P y && !(y.beq x)
theorem oz_sum_congr {f g : Nat → Int} : ∀ {n : Nat}, (∀ i, i < n → f i = g i) → oz_sum f n = oz_sum g n := by
  intro n
  induction n with
  | zero => intro _; rfl
  | succ n ih =>
    intro h
    show oz_sum f n + f n = oz_sum g n + g n
    rw [ih (fun i hi => h i (Nat.lt_succ_of_lt hi)), h n (Nat.lt_succ_self n)]
theorem oz_sum_add (f g : Nat → Int) : ∀ n : Nat, oz_sum (fun i => f i + g i) n = oz_sum f n + oz_sum g n := by
  intro n
  induction n with
  | zero => rfl
  | succ n ih =>
    show oz_sum (fun i => f i + g i) n + (f n + g n) = oz_sum f n + f n + (oz_sum g n + g n)
    rw [ih]; omega
theorem oz_sum_mul (a : Int) (f : Nat → Int) : ∀ n : Nat, oz_sum (fun i => a * f i) n = a * oz_sum f n := by
  intro n
  induction n with
  | zero => exact (Int.mul_zero a).symm
  | succ n ih =>
    show oz_sum (fun i => a * f i) n + a * f n = a * (oz_sum f n + f n)
    rw [ih, Int.mul_add]
theorem oz_sum_swap (f : Nat → Nat → Int) (m : Nat) : ∀ n : Nat, oz_sum (fun i => oz_sum (f i) m) n = oz_sum (fun j => oz_sum (fun i => f i j) n) m := by
  intro n
  induction n with
  | zero =>
    show (0 : Int) = oz_sum (fun _ => 0) m
    induction m with
    | zero => rfl
    | succ m ih => show (0 : Int) = oz_sum (fun _ => 0) m + 0; omega
  | succ n ih =>
    show oz_sum (fun i => oz_sum (f i) m) n + oz_sum (f n) m = oz_sum (fun j => oz_sum (fun i => f i j) n + f n j) m
    rw [ih, ← oz_sum_add]
theorem oz_sum_zero : ∀ n : Nat, oz_sum (fun _ => 0) n = 0 := by
  intro n
  induction n with
  | zero => rfl
  | succ n ih => show oz_sum (fun _ => 0) n + 0 = 0; omega
theorem oz_w_congr {κ : Nat → Int} {P Q : Nat → Bool} : ∀ {Y : Nat}, (∀ y, y < Y → P y = Q y) → oz_w κ P Y = oz_w κ Q Y := by
  intro Y
  induction Y with
  | zero => intro _; rfl
  | succ Y ih =>
    intro h
    show cond (P Y) (oz_mul (κ Y) (oz_w κ P Y)) (oz_w κ P Y) = cond (Q Y) (oz_mul (κ Y) (oz_w κ Q Y)) (oz_w κ Q Y)
    rw [ih (fun y hy => h y (Nat.lt_succ_of_lt hy)), h Y (Nat.lt_succ_self Y)]
theorem oz_but_self {P : Nat → Bool} {x : Nat} : oz_but P x x = false := by
  unfold oz_but
  rw [Nat.beq_refl]
  cases P x <;> rfl
theorem oz_but_ne {P : Nat → Bool} {x y : Nat} (h : y ≠ x) : oz_but P x y = P y := by
  unfold oz_but
  have : y.beq x = false := by rw [← Bool.not_eq_true]; exact fun q => h (Nat.eq_of_beq_eq_true q)
  rw [this]
  cases P y <;> rfl
/-- she knows x, and j of the others: summed over the group -/
def oz_der (κ : Nat → Int) (P : Nat → Bool) (Y j : Nat) : Int := oz_sum (fun x => cond (P x) (κ x * oz_w κ (oz_but P x) Y j) 0) Y
theorem oz_der_eq (κ : Nat → Int) (P : Nat → Bool) : ∀ (Y j : Nat), oz_der κ P Y j = ((j : Int) + 1) * oz_w κ P Y (j + 1) := by
  intro Y
  induction Y with
  | zero => intro j; exact (Int.mul_zero _).symm
  | succ Y ih =>
    intro j
    have hb : ∀ x, x < Y → oz_w κ (oz_but P x) (Y + 1) = cond (P Y) (oz_mul (κ Y) (oz_w κ (oz_but P x) Y)) (oz_w κ (oz_but P x) Y) := by
      intro x hx
      show cond (oz_but P x Y) _ _ = _
      rw [oz_but_ne (Nat.ne_of_gt hx)]
    have hY : oz_w κ (oz_but P Y) (Y + 1) = oz_w κ P Y := by
      show cond (oz_but P Y Y) _ _ = _
      rw [oz_but_self]
      exact oz_w_congr (fun y hy => oz_but_ne (Nat.ne_of_lt hy))
    have e : oz_der κ P (Y + 1) j = oz_sum (fun x => cond (P x) (κ x * oz_w κ (oz_but P x) (Y + 1) j) 0) Y + cond (P Y) (κ Y * oz_w κ (oz_but P Y) (Y + 1) j) 0 := rfl
    rw [e, hY]
    cases hP : P Y with
    | false =>
      have e2 : oz_w κ P (Y + 1) = oz_w κ P Y := by show cond (P Y) _ _ = _; rw [hP]; rfl
      rw [e2, ← ih j]
      show oz_sum (fun x => cond (P x) (κ x * oz_w κ (oz_but P x) (Y + 1) j) 0) Y + 0 = oz_der κ P Y j
      rw [Int.add_zero]
      refine oz_sum_congr (fun x hx => ?_)
      rw [hb x hx, hP]
      rfl
    | true =>
      have e2 : oz_w κ P (Y + 1) = oz_mul (κ Y) (oz_w κ P Y) := by show cond (P Y) _ _ = _; rw [hP]; rfl
      rw [e2]
      show oz_sum (fun x => cond (P x) (κ x * oz_w κ (oz_but P x) (Y + 1) j) 0) Y + κ Y * oz_w κ P Y j = _
      cases j with
      | zero =>
        have s1 : oz_sum (fun x => cond (P x) (κ x * oz_w κ (oz_but P x) (Y + 1) 0) 0) Y = (9 - κ Y) * oz_der κ P Y 0 := by
          show _ = (9 - κ Y) * oz_sum (fun x => cond (P x) (κ x * oz_w κ (oz_but P x) Y 0) 0) Y
          rw [← oz_sum_mul]
          refine oz_sum_congr (fun x hx => ?_)
          rw [hb x hx, hP]
          cases P x with
          | false => exact (Int.mul_zero _).symm
          | true =>
            show κ x * ((9 - κ Y) * oz_w κ (oz_but P x) Y 0) = (9 - κ Y) * (κ x * oz_w κ (oz_but P x) Y 0)
            rw [Int.mul_left_comm]
        rw [s1, ih 0]
        show (9 - κ Y) * ((((0 : Nat) : Int) + 1) * oz_w κ P Y (0 + 1)) + κ Y * oz_w κ P Y 0 = (((0 : Nat) : Int) + 1) * ((9 - κ Y) * oz_w κ P Y (0 + 1) + κ Y * oz_w κ P Y 0)
        rw [show (((0 : Nat) : Int) + 1) = 1 from rfl, Int.one_mul, Int.one_mul]
      | succ j =>
        have s1 : oz_sum (fun x => cond (P x) (κ x * oz_w κ (oz_but P x) (Y + 1) (j + 1)) 0) Y = (9 - κ Y) * oz_der κ P Y (j + 1) + κ Y * oz_der κ P Y j := by
          show _ = (9 - κ Y) * oz_sum (fun x => cond (P x) (κ x * oz_w κ (oz_but P x) Y (j + 1)) 0) Y + κ Y * oz_sum (fun x => cond (P x) (κ x * oz_w κ (oz_but P x) Y j) 0) Y
          rw [← oz_sum_mul, ← oz_sum_mul, ← oz_sum_add]
          refine oz_sum_congr (fun x hx => ?_)
          rw [hb x hx, hP]
          cases P x with
          | false =>
            show (0 : Int) = (9 - κ Y) * 0 + κ Y * 0
            rw [Int.mul_zero, Int.mul_zero]
            rfl
          | true =>
            show κ x * ((9 - κ Y) * oz_w κ (oz_but P x) Y (j + 1) + κ Y * oz_w κ (oz_but P x) Y j) = (9 - κ Y) * (κ x * oz_w κ (oz_but P x) Y (j + 1)) + κ Y * (κ x * oz_w κ (oz_but P x) Y j)
            rw [Int.mul_add, Int.mul_left_comm, Int.mul_left_comm (κ x) (κ Y)]
        rw [s1, ih (j + 1), ih j]
        show (9 - κ Y) * ((((j + 1 : Nat) : Int) + 1) * oz_w κ P Y (j + 1 + 1)) + κ Y * (((j : Int) + 1) * oz_w κ P Y (j + 1)) + κ Y * oz_w κ P Y (j + 1) = (((j + 1 : Nat) : Int) + 1) * ((9 - κ Y) * oz_w κ P Y (j + 1 + 1) + κ Y * oz_w κ P Y (j + 1))
        rw [Int.mul_add, Int.mul_left_comm (9 - κ Y), Int.add_assoc]
        congr 1
        rw [Int.mul_left_comm (κ Y), show (((j + 1 : Nat) : Int) + 1) = ((j : Int) + 1) + 1 from by rw [Int.natCast_add]; rfl, Int.add_mul ((j : Int) + 1) 1, Int.one_mul]
theorem oz_w_0 (κ : Nat → Int) (P : Nat → Bool) : ∀ Y : Nat, oz_w κ P Y 0 = oz_non κ P Y := by
  intro Y
  induction Y with
  | zero => rfl
  | succ Y ih =>
    show cond (P Y) (oz_mul (κ Y) (oz_w κ P Y)) (oz_w κ P Y) 0 = cond (P Y) (oz_non κ P Y * (9 - κ Y)) (oz_non κ P Y)
    cases P Y with
    | false => exact ih
    | true =>
      show (9 - κ Y) * oz_w κ P Y 0 = oz_non κ P Y * (9 - κ Y)
      rw [ih, Int.mul_comm]
theorem oz_mul_sum (k : Int) (c : Nat → Int) : ∀ n : Nat, oz_sum (oz_mul k c) (n + 1) = (9 - k) * oz_sum c (n + 1) + k * oz_sum c n := by
  intro n
  induction n with
  | zero =>
    show 0 + (9 - k) * c 0 = (9 - k) * (0 + c 0) + k * 0
    rw [Int.zero_add, Int.zero_add, Int.mul_zero, Int.add_zero]
  | succ n ih =>
    show oz_sum (oz_mul k c) (n + 1) + ((9 - k) * c (n + 1) + k * c n) = (9 - k) * (oz_sum c (n + 1) + c (n + 1)) + k * (oz_sum c n + c n)
    rw [ih, Int.mul_add, Int.mul_add]
    omega
/-- all together -/
theorem oz_w_all (κ : Nat → Int) (P : Nat → Bool) : ∀ (Y N : Nat), Y < N → oz_sum (oz_w κ P Y) N = 9 ^ oz_cnt P Y := by
  intro Y
  induction Y with
  | zero =>
    intro N hN
    induction N with
    | zero => omega
    | succ N ih =>
      show oz_sum oz_one N + oz_one N = 1
      cases N with
      | zero => rfl
      | succ N =>
        rw [show oz_sum oz_one (N + 1) = 1 from ih (by omega)]
        rfl
  | succ Y ih =>
    intro N hN
    show oz_sum (cond (P Y) (oz_mul (κ Y) (oz_w κ P Y)) (oz_w κ P Y)) N = 9 ^ cond (P Y) (oz_cnt P Y + 1) (oz_cnt P Y)
    cases P Y with
    | false => exact ih N (by omega)
    | true =>
      cases N with
      | zero => omega
      | succ N =>
        show oz_sum (oz_mul (κ Y) (oz_w κ P Y)) (N + 1) = 9 ^ (oz_cnt P Y + 1)
        rw [oz_mul_sum, ih (N + 1) (by omega), ih N (by omega), ← Int.add_mul, show 9 - κ Y + κ Y = 9 from by omega, Int.pow_succ, Int.mul_comm]
theorem oz_tail (f : Nat → Int) : ∀ n : Nat, oz_sum f (n + 1) = f 0 + oz_sum (fun j => f (j + 1)) n := by
  intro n
  induction n with
  | zero => show 0 + f 0 = f 0 + 0; omega
  | succ n ih =>
    show oz_sum f (n + 1) + f (n + 1) = f 0 + (oz_sum (fun j => f (j + 1)) n + f (n + 1))
    rw [ih]; omega
theorem oz_share (j : Nat) (h : j < 9) : ((j : Int) + 1) * (((2520 / (j + 1) : Nat)) : Int) = 2520 := by
  match j, h with
  | 0, _ => rfl
  | 1, _ => rfl
  | 2, _ => rfl
  | 3, _ => rfl
  | 4, _ => rfl
  | 5, _ => rfl
  | 6, _ => rfl
  | 7, _ => rfl
  | 8, _ => rfl
/-- what the reference sums of a group, and what the class says of it -/
theorem oz_group (κ : Nat → Int) (P : Nat → Bool) : oz_sum (fun x => cond (P x) (κ x * oz_sum (fun j => oz_w κ (oz_but P x) 9 j * (((2520 / (j + 1) : Nat)) : Int)) 9) 0) 9 = 2520 * (9 ^ oz_cnt P 9 - oz_non κ P 9) := by
  have e1 : oz_sum (fun x => cond (P x) (κ x * oz_sum (fun j => oz_w κ (oz_but P x) 9 j * (((2520 / (j + 1) : Nat)) : Int)) 9) 0) 9 = oz_sum (fun x => oz_sum (fun j => (((2520 / (j + 1) : Nat)) : Int) * cond (P x) (κ x * oz_w κ (oz_but P x) 9 j) 0) 9) 9 := by
    refine oz_sum_congr (fun x _ => ?_)
    cases P x with
    | false =>
      show (0 : Int) = oz_sum (fun j => (((2520 / (j + 1) : Nat)) : Int) * 0) 9
      rw [oz_sum_congr (g := fun _ => 0) (fun i _ => Int.mul_zero _), oz_sum_zero]
    | true =>
      show κ x * oz_sum (fun j => oz_w κ (oz_but P x) 9 j * (((2520 / (j + 1) : Nat)) : Int)) 9 = oz_sum (fun j => (((2520 / (j + 1) : Nat)) : Int) * (κ x * oz_w κ (oz_but P x) 9 j)) 9
      rw [← oz_sum_mul]
      exact oz_sum_congr (fun j _ => by rw [Int.mul_comm (oz_w κ (oz_but P x) 9 j), Int.mul_left_comm])
  rw [e1, oz_sum_swap]
  have e2 : oz_sum (fun j => oz_sum (fun x => (((2520 / (j + 1) : Nat)) : Int) * cond (P x) (κ x * oz_w κ (oz_but P x) 9 j) 0) 9) 9 = oz_sum (fun j => 2520 * oz_w κ P 9 (j + 1)) 9 := by
    refine oz_sum_congr (fun j hj => ?_)
    rw [oz_sum_mul]
    have d := oz_der_eq κ P 9 j
    unfold oz_der at d
    rw [d, ← Int.mul_assoc, Int.mul_comm (((2520 / (j + 1) : Nat)) : Int), oz_share j hj]
  rw [e2, oz_sum_mul]
  have t := oz_tail (oz_w κ P 9) 9
  rw [oz_w_all κ P 9 10 (by omega), oz_w_0] at t
  congr 1
  omega

/-! what the ear holds: rows 74, 75, the set in 73 -/
theorem oz_NCM {M : ab_ML} {σ σ' A : ab_SG} (h : ab_okM M σ σ') (m : rc_b M 3 = true) (hN : NC σ A) : NC σ' A := ⟨hN.1, hN.2.1, cn_cg hN.1 (cb_M h m) hN.2.2⟩
def oz_M : ab_ML := [(73, 3), (74, 1000000), (75, 1000000)]
def oz_grp (A : ab_SG) (n s : Int) (x : Nat) : Int := if pr_hs s (x : Int) = true then v_lk A (x : Int) n 0 s (A 49 11).toNat else 0
def oz_P (s : Int) : Nat → Bool := fun y => pr_hs s (y : Int)
/-- over 9 to the ninth -/
def oz_any (κ : Nat → Int) (g : Int) : Int := (9 ^ oz_cnt (oz_P g) 9 - oz_non κ (oz_P g) 9) * 9 ^ (9 - oz_cnt (oz_P g) 9)
def sp_group : fw_SP := fun as σ K => ∃ (A : ab_SG) (n s : Int), as = [(2, 73, 0), (2, 3, 0), (0, 0, n), (0, 0, s)] ∧ NC σ A ∧ (1 ≤ n ∧ n ≤ 9) ∧ (0 ≤ s ∧ s < 512) ∧ (∀ z : Nat, z < 9 → pr_hs s (z : Int) = true → (z : Int) < A 49 11) ∧ ∀ σ' : ab_SG, ab_okM oz_M σ σ' → σ' 73 3 = s → (∀ x : Nat, x < 9 → σ' 75 x = oz_grp A n s x) → K none σ'
def sp_listen : fw_SP := fun as σ K => ∃ (A : ab_SG) (p : Nat) (s : Int), as = [(2, 73, 0), (2, 3, 0), (0, 0, (p : Int)), (0, 0, s)] ∧ NC σ A ∧ p < 5 ∧ (0 ≤ s ∧ s < 512) ∧ ∀ σ' : ab_SG, ab_okM oz_M σ σ' → σ' 73 3 = σ 73 3 → (∀ x : Nat, σ' 75 x = σ 75 x) → (∀ x : Nat, x < 9 → σ' 74 x = if pr_hs s (x : Int) = true then 9 else A 55 (9 * p + x)) → K none σ'
def sp_atN : fw_SP := fun as σ K => ∃ j : Nat, as = [(5, 1, 0), (0, 0, (j : Int))] ∧ j < 10 ∧ K (some (1, 0, (9 : Int) ^ j)) σ
def sp_atS : fw_SP := fun as σ K => ∃ j : Nat, as = [(5, 2, 0), (0, 0, (j : Int))] ∧ j < 9 ∧ K (some (0, 0, ((2520 / (j + 1) : Nat) : Int))) σ
def sp_knowsAny : fw_SP := fun as σ K => ∃ g : Int, as = [(2, 73, 0), (0, 0, g)] ∧ (0 ≤ g ∧ g < 512) ∧ (∀ y : Nat, y < 9 → 0 ≤ σ 74 y ∧ σ 74 y ≤ 9) ∧ K (some (1, 0, oz_any (σ 74) g)) σ
def ob1 (x : Int) : Int := x - (fw_op 8 (fw_op 7 x 1) 1431655765)
def ob2 (x : Int) : Int := (fw_op 8 x 858993459) + (fw_op 8 (fw_op 7 x 2) 858993459)
def ob3 (x : Int) : Int := fw_op 8 (x + (fw_op 7 x 4)) 252645135
def ob4 (x : Int) : Int := x + (fw_op 7 x 8)
def ob5 (x : Int) : Int := x + (fw_op 7 x 16)
theorem ob_ex : ∀ s : Nat, s < 512 → fw_op 8 (ob5 (ob4 (ob3 (ob2 (ob1 (s : Int)))))) 63 = ((oz_cnt (oz_P (s : Int)) 9 : Nat) : Int) := by decide +kernel
def sp_bitc9 : fw_SP := fun as σ K => ∃ s : Int, as = [(0, 0, s)] ∧ (0 ≤ s ∧ s < 512) ∧ K (some (0, 0, ((oz_cnt (oz_P s) 9 : Nat) : Int))) σ
/-- is x the least of the set g -/
def oz_lst (g : Int) (x : Nat) : Bool := decide (fw_c (fw_op 8 g (-g)) = fw_c (fw_op 5 1 (x : Int)))
def oz_sm (κ : Nat → Int) (γ : Nat → Int) (s : Int) : Nat → Int
  | 0 => 0
  | x + 1 => cond (oz_P s x && oz_lst (γ x) x) (oz_sm κ γ s x + oz_any κ (γ x)) (oz_sm κ γ s x)
def oz_sh (s : Int) : Int := ((2520 / (oz_cnt (oz_P s) 9 - 1 + 1) : Nat) : Int)
def oz_ch (κ : Nat → Int) (γ : Nat → Int) (s : Int) : Int := oz_sm κ γ s 9 * oz_sh s
def sp_chance : fw_SP := fun as σ K => ∃ s : Int, as = [(2, 73, 0)] ∧ σ 73 3 = s ∧ (1 ≤ s ∧ s < 512) ∧ (∀ x : Nat, x < 9 → 0 ≤ σ 75 x ∧ σ 75 x < 512) ∧ (∀ y : Nat, y < 9 → 0 ≤ σ 74 y ∧ σ 74 y ≤ 9) ∧ K (some (1, 0, oz_ch (σ 74) (σ 75) s)) σ
def oz_kp (A : ab_SG) (p : Nat) : Nat → Int := fun y => A 55 (9 * p + y)
/-- the odds of p by n notes, of a set s -/
def oz_odds (A : ab_SG) (p : Nat) (n s : Int) : Int := oz_ch (oz_kp A p) (oz_grp A n s) s
def sp_chanceOf : fw_SP := fun as σ K => ∃ (A : ab_SG) (p : Nat) (n s : Int), as = [(2, 0, 0), (0, 0, (p : Int)), (0, 0, n), (0, 0, s)] ∧ NC σ A ∧ p < 5 ∧ (1 ≤ n ∧ n ≤ 9) ∧ (1 ≤ s ∧ s < 512) ∧ (∀ z : Nat, z < 9 → pr_hs s (z : Int) = true → (z : Int) < A 49 11) ∧ ∀ σ' : ab_SG, ab_okM oz_M σ σ' → K (some (1, 0, oz_odds A p n s)) σ'
theorem oz_non_congr {κ κ' : Nat → Int} {P : Nat → Bool} : ∀ {Y : Nat}, (∀ y, y < Y → κ y = κ' y) → oz_non κ P Y = oz_non κ' P Y := by
  intro Y
  induction Y with
  | zero => intro _; rfl
  | succ Y ih =>
    intro h
    show cond (P Y) (oz_non κ P Y * (9 - κ Y)) (oz_non κ P Y) = cond (P Y) (oz_non κ' P Y * (9 - κ' Y)) (oz_non κ' P Y)
    rw [ih (fun y hy => h y (Nat.lt_succ_of_lt hy)), h Y (Nat.lt_succ_self Y)]
theorem oz_any_congr {κ κ' : Nat → Int} (h : ∀ y, y < 9 → κ y = κ' y) (g : Int) : oz_any κ g = oz_any κ' g := by
  unfold oz_any
  rw [oz_non_congr h]
theorem oz_sm_congr {κ κ' γ γ' : Nat → Int} {s : Int} (h : ∀ y, y < 9 → κ y = κ' y) : ∀ {X : Nat}, (∀ x, x < X → γ x = γ' x) → oz_sm κ γ s X = oz_sm κ' γ' s X := by
  intro X
  induction X with
  | zero => intro _; rfl
  | succ X ih =>
    intro g
    show cond (oz_P s X && oz_lst (γ X) X) (oz_sm κ γ s X + oz_any κ (γ X)) (oz_sm κ γ s X) = cond (oz_P s X && oz_lst (γ' X) X) (oz_sm κ' γ' s X + oz_any κ' (γ' X)) (oz_sm κ' γ' s X)
    rw [ih (fun x hx => g x (Nat.lt_succ_of_lt hx)), g X (Nat.lt_succ_self X), oz_any_congr h]
theorem oz_cnt_pos {s : Int} (h1 : 1 ≤ s) (h5 : s < 512) : 1 ≤ oz_cnt (oz_P s) 9 := by
  have k : ∀ t : Nat, t < 512 → 1 ≤ t → 1 ≤ oz_cnt (oz_P (t : Int)) 9 := by decide +kernel
  obtain ⟨t, rfl⟩ := Int.eq_ofNat_of_zero_le (show 0 ≤ s by omega)
  exact k t (by omega) (by omega)
theorem oz_grp_b {A : ab_SG} (hi : RI A) (n s : Int) (x : Nat) : 0 ≤ oz_grp A n s x ∧ oz_grp A n s x < 512 := by
  unfold oz_grp
  split
  · exact v_lk_b A (x : Int) n 0 s (A 49 11).toNat (by have := N_n hi; omega)
  · exact ⟨Int.le_refl 0, by decide⟩
theorem oz_kn {σ A : ab_SG} (h : NC σ A) {j : Nat} (hj : j < 45) : σ 9 j = A 55 j := h.2.2.2.2.2.2.2.2.1 j hj
theorem oz_kn_b {σ A : ab_SG} (h : NC σ A) {j : Nat} (hj : j < 45) : 0 ≤ A 55 j ∧ A 55 j ≤ 9 := h.2.1.2.2.1 j hj
theorem oz_cnt_le (P : Nat → Bool) : ∀ Y : Nat, oz_cnt P Y ≤ Y := by
  intro Y
  induction Y with
  | zero => exact Nat.le_refl 0
  | succ Y ih =>
    show cond (P Y) (oz_cnt P Y + 1) (oz_cnt P Y) ≤ Y + 1
    cases P Y with
    | false => show oz_cnt P Y ≤ Y + 1; omega
    | true => show oz_cnt P Y + 1 ≤ Y + 1; omega
theorem oz_c9 (x : Nat) (h : x < 10) : fw_c (x : Int) = (x : Int) := fw_s (by omega) (by omega)
abbrev fk_group : List fw_CR := [(26, 2, false, 0, 0, sp_has), (30, 4, true, 6, 2, sp_likes3)]
abbrev st_group : fw_K → fw_KR → fw_K := fw_st vwCl nn_sh nn_kd fw_kv fw_wc (nn_KI9.map (fun x => x.1)) (nn_KJ9.map (fun x => x.1)) (nn_PF9.map (fun x => x.1)) (nn_PS9.map (fun x => x.1)) fk_group 3 nn_dt83 5 4
theorem fs_group_0 {G : fw_K} {R : fw_KR} (hG : fw_cls st_group R G) {n s : Int} {σ : ab_SG} (h : G 8 [some (2, 73, 0), some (2, 3, 0), some (0, 0, n), some (0, 0, s), some (0, 0, 0)] [] (ab_ups σ 73 3 (fw_c s))) : G 0 [some (2, 73, 0), some (2, 3, 0), some (0, 0, n), some (0, 0, s), none] [] σ := fw_on hG [8, 30, 42, 46] 200 h
theorem fs_group_8 {G : fw_K} {R : fw_KR} (hG : fw_cls st_group R G) {a2 a3 a4 : Int} {σ : ab_SG} (h : (fw_c ((9 : Nat) : Int) ≤ fw_c a4 → R none σ) ∧ (fw_c a4 < fw_c ((9 : Nat) : Int) → sp_has [(0, 0, a3), (0, 0, a4)] σ (fun rv σ2 => G 30 [some (2, 73, 0), some (2, 3, 0), some (0, 0, a2), some (0, 0, a3), some (0, 0, a4)] (rv.toList ++ [(0, 0, a4), (2, 75, 0)]) σ2))) : G 8 [some (2, 73, 0), some (2, 3, 0), some (0, 0, a2), some (0, 0, a3), some (0, 0, a4)] [] σ := fw_on hG [8, 30, 42, 46] 200 h
theorem fs_group_30 {G : fw_K} {R : fw_KR} (hG : fw_cls st_group R G) {a2 a3 a4 b0 b1 : Int} {σ : ab_SG} (h : (fw_c b0 = 0 → G 46 [some (2, 73, 0), some (2, 3, 0), some (0, 0, a2), some (0, 0, a3), some (0, 0, a4)] [(0, 0, 0), (0, 0, b1), (2, 75, 0)] σ) ∧ (fw_c b0 ≠ 0 → sp_likes3 [(2, 3, 0), (0, 0, a4), (0, 0, a2), (0, 0, 0), (0, 0, a3)] σ (fun rv σ2 => G 42 [some (2, 73, 0), some (2, 3, 0), some (0, 0, a2), some (0, 0, a3), some (0, 0, a4)] (rv.toList ++ [(0, 0, b1), (2, 75, 0)]) σ2))) : G 30 [some (2, 73, 0), some (2, 3, 0), some (0, 0, a2), some (0, 0, a3), some (0, 0, a4)] [(0, 0, b0), (0, 0, b1), (2, 75, 0)] σ := fw_on hG [8, 30, 42, 46] 200 h
theorem fs_group_46 {G : fw_K} {R : fw_KR} (hG : fw_cls st_group R G) {a2 a3 a4 b0 b1 : Int} {σ : ab_SG} (h : (0 ≤ fw_c b1 ∧ fw_c b1 < ((9 : Nat) : Int)) ∧ True ∧ (G 8 [some (2, 73, 0), some (2, 3, 0), some (0, 0, a2), some (0, 0, a3), some (0, 0, a4 + 1)] [] (ab_ups σ 75 (fw_c b1).toNat (fw_c b0)))) : G 46 [some (2, 73, 0), some (2, 3, 0), some (0, 0, a2), some (0, 0, a3), some (0, 0, a4)] [(0, 0, b0), (0, 0, b1), (2, 75, 0)] σ := fw_on hG [8, 30, 42, 46] 200 h
theorem fs_group_42 {G : fw_K} {R : fw_KR} (hG : fw_cls st_group R G) {a2 a3 a4 b0 b1 : Int} {σ : ab_SG} (h : G 46 [some (2, 73, 0), some (2, 3, 0), some (0, 0, a2), some (0, 0, a3), some (0, 0, a4)] [(0, 0, b0), (0, 0, b1), (2, 75, 0)] σ) : G 42 [some (2, 73, 0), some (2, 3, 0), some (0, 0, a2), some (0, 0, a3), some (0, 0, a4)] [(0, 0, b0), (0, 0, b1), (2, 75, 0)] σ := fw_on hG [8, 30, 42, 46] 200 h
abbrev fk_listen : List fw_CR := [(26, 2, false, 0, 0, sp_has), (36, 2, true, 6, 1, sp_ninth3)]
abbrev st_listen : fw_K → fw_KR → fw_K := fw_st vwCl nn_sh nn_kd fw_kv fw_wc (nn_KI9.map (fun x => x.1)) (nn_KJ9.map (fun x => x.1)) (nn_PF9.map (fun x => x.1)) (nn_PS9.map (fun x => x.1)) fk_listen 3 nn_dt84 5 4
theorem fs_listen_0 {G : fw_K} {R : fw_KR} (hG : fw_cls st_listen R G) {p s : Int} {σ : ab_SG} (h : G 3 [some (2, 73, 0), some (2, 3, 0), some (0, 0, p), some (0, 0, s), some (0, 0, 0)] [] σ) : G 0 [some (2, 73, 0), some (2, 3, 0), some (0, 0, p), some (0, 0, s), none] [] σ := fw_on hG [3, 25, 40] 200 h
theorem fs_listen_3 {G : fw_K} {R : fw_KR} (hG : fw_cls st_listen R G) {a2 a3 a4 : Int} {σ : ab_SG} (h : (fw_c ((9 : Nat) : Int) ≤ fw_c a4 → R none σ) ∧ (fw_c a4 < fw_c ((9 : Nat) : Int) → sp_has [(0, 0, a3), (0, 0, a4)] σ (fun rv σ2 => G 25 [some (2, 73, 0), some (2, 3, 0), some (0, 0, a2), some (0, 0, a3), some (0, 0, a4)] (rv.toList ++ [(0, 0, a4), (2, 74, 0)]) σ2))) : G 3 [some (2, 73, 0), some (2, 3, 0), some (0, 0, a2), some (0, 0, a3), some (0, 0, a4)] [] σ := fw_on hG [3, 25, 40] 200 h
theorem fs_listen_25 {G : fw_K} {R : fw_KR} (hG : fw_cls st_listen R G) {a2 a3 a4 b0 b1 : Int} {σ : ab_SG} (h : (fw_c b0 = 0 → sp_ninth3 [(2, 3, 0), (0, 0, a2), (0, 0, a4)] σ (fun rv σ2 => G 40 [some (2, 73, 0), some (2, 3, 0), some (0, 0, a2), some (0, 0, a3), some (0, 0, a4)] (rv.toList ++ [(0, 0, b1), (2, 74, 0)]) σ2)) ∧ (fw_c b0 ≠ 0 → G 40 [some (2, 73, 0), some (2, 3, 0), some (0, 0, a2), some (0, 0, a3), some (0, 0, a4)] [(0, 0, 9), (0, 0, b1), (2, 74, 0)] σ)) : G 25 [some (2, 73, 0), some (2, 3, 0), some (0, 0, a2), some (0, 0, a3), some (0, 0, a4)] [(0, 0, b0), (0, 0, b1), (2, 74, 0)] σ := fw_on hG [3, 25, 40] 200 h
theorem fs_listen_40 {G : fw_K} {R : fw_KR} (hG : fw_cls st_listen R G) {a2 a3 a4 b0 b1 : Int} {σ : ab_SG} (h : (0 ≤ fw_c b1 ∧ fw_c b1 < ((9 : Nat) : Int)) ∧ True ∧ (G 3 [some (2, 73, 0), some (2, 3, 0), some (0, 0, a2), some (0, 0, a3), some (0, 0, a4 + 1)] [] (ab_ups σ 74 (fw_c b1).toNat (fw_c b0)))) : G 40 [some (2, 73, 0), some (2, 3, 0), some (0, 0, a2), some (0, 0, a3), some (0, 0, a4)] [(0, 0, b0), (0, 0, b1), (2, 74, 0)] σ := fw_on hG [3, 25, 40] 200 h
abbrev fk_atN : List fw_CR := []
abbrev st_atN : fw_K → fw_KR → fw_K := fw_st vwCl nn_sh nn_kd fw_kv fw_wc (nn_KI1.map (fun x => x.1)) (nn_KJ1.map (fun x => x.1)) (nn_PF1.map (fun x => x.1)) (nn_PS1.map (fun x => x.1)) fk_atN 0 nn_dt87 2 2
theorem fs_atN_0 {G : fw_K} {R : fw_KR} (hG : fw_cls st_atN R G) {x : Int} {σ : ab_SG} (h : (fw_c x < 0 → R (some (1, 0, ((0 : Nat) : Int))) σ) ∧ (0 ≤ fw_c x → (fw_c ((10 : Nat) : Int) ≤ fw_c x → R (some (1, 0, ((0 : Nat) : Int))) σ) ∧ (fw_c x < fw_c ((10 : Nat) : Int) → (0 ≤ fw_c x ∧ fw_c x < ((10 : Nat) : Int)) ∧ (R (some (1, 0, fw_kv 1 (fw_c x).toNat)) σ)))) : G 0 [some (5, 1, 0), some (0, 0, x)] [] σ := fw_on hG [] 200 h
abbrev fk_atS : List fw_CR := []
abbrev st_atS : fw_K → fw_KR → fw_K := fw_st vwCl nn_sh nn_kd fw_kv fw_wc (nn_KI1.map (fun x => x.1)) (nn_KJ1.map (fun x => x.1)) (nn_PF1.map (fun x => x.1)) (nn_PS1.map (fun x => x.1)) fk_atS 0 nn_dt29 2 0
theorem fs_atS_0 {G : fw_K} {R : fw_KR} (hG : fw_cls st_atS R G) {x : Int} {σ : ab_SG} (h : (fw_c x < 0 → R (some (0, 0, 0)) σ) ∧ (0 ≤ fw_c x → (fw_c ((9 : Nat) : Int) ≤ fw_c x → R (some (0, 0, 0)) σ) ∧ (fw_c x < fw_c ((9 : Nat) : Int) → (0 ≤ fw_c x ∧ fw_c x < ((9 : Nat) : Int)) ∧ (R (some (0, 0, fw_kv 2 (fw_c x).toNat)) σ)))) : G 0 [some (5, 2, 0), some (0, 0, x)] [] σ := fw_on hG [] 200 h
abbrev fk_knowsAny : List fw_CR := [(26, 2, false, 0, 0, sp_has), (54, 2, false, 0, 0, sp_atN)]
abbrev st_knowsAny : fw_K → fw_KR → fw_K := fw_st vwCl nn_sh nn_kd fw_kv fw_wc (nn_KI9.map (fun x => x.1)) (nn_KJ9.map (fun x => x.1)) (nn_PF9.map (fun x => x.1)) (nn_PS9.map (fun x => x.1)) fk_knowsAny 2 nn_dt86 6 2
theorem fs_knowsAny_0 {G : fw_K} {R : fw_KR} (hG : fw_cls st_knowsAny R G) {g : Int} {σ : ab_SG} (h : G 8 [some (2, 73, 0), some (0, 0, g), some (1, 0, ((1 : Nat) : Int)), none, some (0, 0, 0), some (0, 0, 0)] [] σ) : G 0 [some (2, 73, 0), some (0, 0, g), none, none, none, none] [] σ := fw_on hG [8, 24, 44, 58, 71] 200 h
theorem fs_knowsAny_8 {G : fw_K} {R : fw_KR} (hG : fw_cls st_knowsAny R G) {a1 a2 a4 a5 : Int} {σ : ab_SG} (h : (fw_c ((9 : Nat) : Int) ≤ fw_c a5 → sp_atN [(5, 1, 0), (0, 0, a4)] σ (fun rv σ2 => G 58 [some (2, 73, 0), some (0, 0, a1), some (1, 0, a2), none, some (0, 0, a4), some (0, 0, a5)] (rv.toList ++ []) σ2)) ∧ (fw_c a5 < fw_c ((9 : Nat) : Int) → sp_has [(0, 0, a1), (0, 0, a5)] σ (fun rv σ2 => G 24 [some (2, 73, 0), some (0, 0, a1), some (1, 0, a2), none, some (0, 0, a4), some (0, 0, a5)] (rv.toList ++ []) σ2))) : G 8 [some (2, 73, 0), some (0, 0, a1), some (1, 0, a2), none, some (0, 0, a4), some (0, 0, a5)] [] σ := fw_on hG [8, 24, 44, 58, 71] 200 h
theorem fs_knowsAny_58 {G : fw_K} {R : fw_KR} (hG : fw_cls st_knowsAny R G) {a1 a2 a4 a5 b0 : Int} {σ : ab_SG} (h : sp_atN [(5, 1, 0), (0, 0, 9 - a4)] σ (fun rv σ2 => G 71 [some (2, 73, 0), some (0, 0, a1), some (1, 0, a2), none, some (0, 0, a4), some (0, 0, a5)] (rv.toList ++ [(1, 0, b0 - a2)]) σ2)) : G 58 [some (2, 73, 0), some (0, 0, a1), some (1, 0, a2), none, some (0, 0, a4), some (0, 0, a5)] [(1, 0, b0)] σ := fw_on hG [8, 24, 44, 58, 71] 200 h
theorem fs_knowsAny_24 {G : fw_K} {R : fw_KR} (hG : fw_cls st_knowsAny R G) {a1 a2 a4 a5 b0 : Int} {σ : ab_SG} (h : (fw_c b0 = 0 → G 44 [some (2, 73, 0), some (0, 0, a1), some (1, 0, a2), none, some (0, 0, a4), some (0, 0, a5)] [] σ) ∧ (fw_c b0 ≠ 0 → (0 ≤ fw_c a5 ∧ fw_c a5 < ((9 : Nat) : Int)) ∧ (G 44 [some (2, 73, 0), some (0, 0, a1), some (1, 0, a2 * (fw_c (9 - (σ 74 (fw_c a5).toNat)))), none, some (0, 0, a4 + 1), some (0, 0, a5)] [] σ))) : G 24 [some (2, 73, 0), some (0, 0, a1), some (1, 0, a2), none, some (0, 0, a4), some (0, 0, a5)] [(0, 0, b0)] σ := fw_on hG [8, 24, 44, 58, 71] 200 h
theorem fs_knowsAny_71 {G : fw_K} {R : fw_KR} (hG : fw_cls st_knowsAny R G) {a1 a2 a4 a5 b0 b1 : Int} {σ : ab_SG} (h : R (some (1, 0, b1 * b0)) σ) : G 71 [some (2, 73, 0), some (0, 0, a1), some (1, 0, a2), none, some (0, 0, a4), some (0, 0, a5)] [(1, 0, b0), (1, 0, b1)] σ := fw_on hG [8, 24, 44, 58, 71] 200 h
theorem fs_knowsAny_44 {G : fw_K} {R : fw_KR} (hG : fw_cls st_knowsAny R G) {a1 a2 a4 a5 : Int} {σ : ab_SG} (h : G 8 [some (2, 73, 0), some (0, 0, a1), some (1, 0, a2), none, some (0, 0, a4), some (0, 0, a5 + 1)] [] σ) : G 44 [some (2, 73, 0), some (0, 0, a1), some (1, 0, a2), none, some (0, 0, a4), some (0, 0, a5)] [] σ := fw_on hG [8, 24, 44, 58, 71] 200 h
abbrev fk_bitc9 : List fw_CR := []
abbrev st_bitc9 : fw_K → fw_KR → fw_K := fw_st vwCl nn_sh nn_kd fw_kv fw_wc (nn_KI12.map (fun x => x.1)) (nn_KJ12.map (fun x => x.1)) (nn_PF12.map (fun x => x.1)) (nn_PS12.map (fun x => x.1)) fk_bitc9 0 nn_dt88 1 0
theorem fs_bitc9_0 {G : fw_K} {R : fw_KR} (hG : fw_cls st_bitc9 R G) {s : Int} {σ : ab_SG} (h : G 10 [some (0, 0, s - (fw_op 8 (fw_op 7 s 1) 1431655765))] [] σ) : G 0 [some (0, 0, s)] [] σ := fw_on hG [10, 24, 34, 41, 48] 200 h
theorem fs_bitc9_10 {G : fw_K} {R : fw_KR} (hG : fw_cls st_bitc9 R G) {a0 : Int} {σ : ab_SG} (h : G 24 [some (0, 0, (fw_op 8 a0 858993459) + (fw_op 8 (fw_op 7 a0 2) 858993459))] [] σ) : G 10 [some (0, 0, a0)] [] σ := fw_on hG [10, 24, 34, 41, 48] 200 h
theorem fs_bitc9_24 {G : fw_K} {R : fw_KR} (hG : fw_cls st_bitc9 R G) {a0 : Int} {σ : ab_SG} (h : G 34 [some (0, 0, fw_op 8 (a0 + (fw_op 7 a0 4)) 252645135)] [] σ) : G 24 [some (0, 0, a0)] [] σ := fw_on hG [10, 24, 34, 41, 48] 200 h
theorem fs_bitc9_34 {G : fw_K} {R : fw_KR} (hG : fw_cls st_bitc9 R G) {a0 : Int} {σ : ab_SG} (h : G 41 [some (0, 0, a0 + (fw_op 7 a0 8))] [] σ) : G 34 [some (0, 0, a0)] [] σ := fw_on hG [10, 24, 34, 41, 48] 200 h
theorem fs_bitc9_41 {G : fw_K} {R : fw_KR} (hG : fw_cls st_bitc9 R G) {a0 : Int} {σ : ab_SG} (h : G 48 [some (0, 0, a0 + (fw_op 7 a0 16))] [] σ) : G 41 [some (0, 0, a0)] [] σ := fw_on hG [10, 24, 34, 41, 48] 200 h
theorem fs_bitc9_48 {G : fw_K} {R : fw_KR} (hG : fw_cls st_bitc9 R G) {a0 : Int} {σ : ab_SG} (h : R (some (0, 0, fw_op 8 a0 63)) σ) : G 48 [some (0, 0, a0)] [] σ := fw_on hG [10, 24, 34, 41, 48] 200 h
abbrev fk_chance : List fw_CR := [(26, 2, false, 0, 0, sp_has), (40, 2, false, 0, 0, sp_atS), (57, 2, false, 0, 0, sp_isLeast), (60, 1, true, 1, 2, sp_knowsAny), (64, 1, false, 0, 0, sp_bitc9)]
abbrev st_chance : fw_K → fw_KR → fw_K := fw_st vwCl nn_sh nn_kd fw_kv fw_wc (nn_KI9.map (fun x => x.1)) (nn_KJ9.map (fun x => x.1)) (nn_PF9.map (fun x => x.1)) (nn_PS9.map (fun x => x.1)) fk_chance 3 nn_dt85 4 2
theorem fs_chance_0 {G : fw_K} {R : fw_KR} (hG : fw_cls st_chance R G) {σ : ab_SG} (h : G 4 [some (2, 73, 0), some (1, 0, ((0 : Nat) : Int)), none, some (0, 0, 0)] [] σ) : G 0 [some (2, 73, 0), none, none, none] [] σ := fw_on hG [4, 21, 34, 48, 50, 67, 72] 200 h
theorem fs_chance_4 {G : fw_K} {R : fw_KR} (hG : fw_cls st_chance R G) {a1 a3 : Int} {σ : ab_SG} (h : (fw_c ((9 : Nat) : Int) ≤ fw_c a3 → sp_bitc9 [(0, 0, σ 73 3)] σ (fun rv σ2 => G 67 [some (2, 73, 0), some (1, 0, a1), none, some (0, 0, a3)] (rv.toList ++ [(5, 2, 0), (1, 0, a1)]) σ2)) ∧ (fw_c a3 < fw_c ((9 : Nat) : Int) → sp_has [(0, 0, σ 73 3), (0, 0, a3)] σ (fun rv σ2 => G 21 [some (2, 73, 0), some (1, 0, a1), none, some (0, 0, a3)] (rv.toList ++ []) σ2))) : G 4 [some (2, 73, 0), some (1, 0, a1), none, some (0, 0, a3)] [] σ := fw_on hG [4, 21, 34, 48, 50, 67, 72] 200 h
theorem fs_chance_67 {G : fw_K} {R : fw_KR} (hG : fw_cls st_chance R G) {a1 a3 b0 b2 : Int} {σ : ab_SG} (h : sp_atS [(5, 2, 0), (0, 0, b0 - 1)] σ (fun rv σ2 => G 72 [some (2, 73, 0), some (1, 0, a1), none, some (0, 0, a3)] (rv.toList ++ [(1, 0, b2)]) σ2)) : G 67 [some (2, 73, 0), some (1, 0, a1), none, some (0, 0, a3)] [(0, 0, b0), (5, 2, 0), (1, 0, b2)] σ := fw_on hG [4, 21, 34, 48, 50, 67, 72] 200 h
theorem fs_chance_21 {G : fw_K} {R : fw_KR} (hG : fw_cls st_chance R G) {a1 a3 b0 : Int} {σ : ab_SG} (h : (fw_c b0 = 0 → G 50 [some (2, 73, 0), some (1, 0, a1), none, some (0, 0, a3)] [] σ) ∧ (fw_c b0 ≠ 0 → (0 ≤ fw_c a3 ∧ fw_c a3 < ((9 : Nat) : Int)) ∧ (sp_isLeast [(0, 0, σ 75 (fw_c a3).toNat), (0, 0, a3)] σ (fun rv σ2 => G 34 [some (2, 73, 0), some (1, 0, a1), none, some (0, 0, a3)] (rv.toList ++ []) σ2)))) : G 21 [some (2, 73, 0), some (1, 0, a1), none, some (0, 0, a3)] [(0, 0, b0)] σ := fw_on hG [4, 21, 34, 48, 50, 67, 72] 200 h
theorem fs_chance_72 {G : fw_K} {R : fw_KR} (hG : fw_cls st_chance R G) {a1 a3 b0 b1 : Int} {σ : ab_SG} (h : R (some (1, 0, b1 * (fw_c b0))) σ) : G 72 [some (2, 73, 0), some (1, 0, a1), none, some (0, 0, a3)] [(0, 0, b0), (1, 0, b1)] σ := fw_on hG [4, 21, 34, 48, 50, 67, 72] 200 h
theorem fs_chance_50 {G : fw_K} {R : fw_KR} (hG : fw_cls st_chance R G) {a1 a3 : Int} {σ : ab_SG} (h : G 4 [some (2, 73, 0), some (1, 0, a1), none, some (0, 0, a3 + 1)] [] σ) : G 50 [some (2, 73, 0), some (1, 0, a1), none, some (0, 0, a3)] [] σ := fw_on hG [4, 21, 34, 48, 50, 67, 72] 200 h
theorem fs_chance_34 {G : fw_K} {R : fw_KR} (hG : fw_cls st_chance R G) {a1 a3 b0 : Int} {σ : ab_SG} (h : (fw_c b0 = 0 → G 50 [some (2, 73, 0), some (1, 0, a1), none, some (0, 0, a3)] [] σ) ∧ (fw_c b0 ≠ 0 → (0 ≤ fw_c a3 ∧ fw_c a3 < ((9 : Nat) : Int)) ∧ (sp_knowsAny [(2, 73, 0), (0, 0, σ 75 (fw_c a3).toNat)] σ (fun rv σ2 => G 48 [some (2, 73, 0), some (1, 0, a1), none, some (0, 0, a3)] (rv.toList ++ [(1, 0, a1)]) σ2)))) : G 34 [some (2, 73, 0), some (1, 0, a1), none, some (0, 0, a3)] [(0, 0, b0)] σ := fw_on hG [4, 21, 34, 48, 50, 67, 72] 200 h
theorem fs_chance_48 {G : fw_K} {R : fw_KR} (hG : fw_cls st_chance R G) {a1 a3 b0 b1 : Int} {σ : ab_SG} (h : G 50 [some (2, 73, 0), some (1, 0, b1 + b0), none, some (0, 0, a3)] [] σ) : G 48 [some (2, 73, 0), some (1, 0, a1), none, some (0, 0, a3)] [(1, 0, b0), (1, 0, b1)] σ := fw_on hG [4, 21, 34, 48, 50, 67, 72] 200 h
abbrev fk_chanceOf : List fw_CR := [(320, 3, true, 1, 3, sp_group), (329, 3, true, 1, 3, sp_listen), (332, 0, true, 1, 3, sp_chance)]
abbrev st_chanceOf : fw_K → fw_KR → fw_K := fw_st vwCl nn_sh nn_kd fw_kv fw_wc (nn_KI1.map (fun x => x.1)) (nn_KJ1.map (fun x => x.1)) (nn_PF1.map (fun x => x.1)) (nn_PS1.map (fun x => x.1)) fk_chanceOf 4 nn_dt82 4 2
theorem fs_chanceOf_0 {G : fw_K} {R : fw_KR} (hG : fw_cls st_chanceOf R G) {p n s : Int} {σ : ab_SG} (h : sp_group [(2, 73, 0), (2, 3, 0), (0, 0, n), (0, 0, s)] σ (fun rv σ2 => G 13 [some (2, 0, 0), some (0, 0, p), some (0, 0, n), some (0, 0, s)] (rv.toList ++ []) σ2)) : G 0 [some (2, 0, 0), some (0, 0, p), some (0, 0, n), some (0, 0, s)] [] σ := fw_on hG [13, 26, 33] 200 h
theorem fs_chanceOf_13 {G : fw_K} {R : fw_KR} (hG : fw_cls st_chanceOf R G) {a1 a2 a3 : Int} {σ : ab_SG} (h : sp_listen [(2, 73, 0), (2, 3, 0), (0, 0, a1), (0, 0, 0)] σ (fun rv σ2 => G 26 [some (2, 0, 0), some (0, 0, a1), some (0, 0, a2), some (0, 0, a3)] (rv.toList ++ []) σ2)) : G 13 [some (2, 0, 0), some (0, 0, a1), some (0, 0, a2), some (0, 0, a3)] [] σ := fw_on hG [13, 26, 33] 200 h
theorem fs_chanceOf_26 {G : fw_K} {R : fw_KR} (hG : fw_cls st_chanceOf R G) {a1 a2 a3 : Int} {σ : ab_SG} (h : sp_chance [(2, 73, 0)] σ (fun rv σ2 => G 33 [some (2, 0, 0), some (0, 0, a1), some (0, 0, a2), some (0, 0, a3)] (rv.toList ++ []) σ2)) : G 26 [some (2, 0, 0), some (0, 0, a1), some (0, 0, a2), some (0, 0, a3)] [] σ := fw_on hG [13, 26, 33] 200 h
theorem fs_chanceOf_33 {G : fw_K} {R : fw_KR} (hG : fw_cls st_chanceOf R G) {a1 a2 a3 b0 : Int} {σ : ab_SG} (h : R (some (1, 0, b0)) σ) : G 33 [some (2, 0, 0), some (0, 0, a1), some (0, 0, a2), some (0, 0, a3)] [(1, 0, b0)] σ := fw_on hG [13, 26, 33] 200 h
section
variable {l : Launch} {cy : Nat → ClassId} {ad wr cr : Nat → Nat} {D : va_G}
theorem fm_group (hinj : nn_inj ad) : fw_H l cy ad wr cr D 83 3 sp_group := fw_mk hinj (⟨"NameNotes$Ear", "group", "(LNameNotes$Studio;II)V"⟩, prog_3_method_2_code, 5, (Option.none : Option Jvm.ClassFile.FieldType), 3, true, 4) rfl rfl nn_KI9_ok nn_KJ9_ok nn_PF9_ok nn_PS9_ok (by decide +kernel) rfl rfl (List.forall_mem_cons.mpr ⟨fw_row nn_PM9_ok (x := 26) (k := 2) (mn := 34) (np := 2) (ob := false) (ci := 0) (⟨"NameNotes", "has", "(II)Z"⟩, prog_1_method_80_code, 2, (Option.some Jvm.ClassFile.FieldType.boolean), 2, false, 1) rfl (by decide +kernel) rfl rfl (by decide) (fun q => by cases q) (fm_has hinj), (List.forall_mem_cons.mpr ⟨fw_row nn_PM9_ok (x := 30) (k := 0) (mn := 74) (np := 4) (ob := true) (ci := 6) (⟨"NameNotes$Studio", "likes", "(IIII)I"⟩, prog_8_method_23_code, 7, (Option.some Jvm.ClassFile.FieldType.int), 4, true, 0) rfl (by decide +kernel) rfl rfl (by decide) (fun _ => ⟨_, _, rfl⟩) (fm_likes3 hinj), (fun _ h => absurd h List.not_mem_nil)⟩)⟩) (fun as σ K h => by
  obtain ⟨A, n, s, rfl, hN, hn, hs, ht, h⟩ := h
  have c9 : fw_c ((9 : Nat) : Int) = 9 := oz_c9 9 (by decide)
  refine ⟨rfl, fun G hG => fs_group_0 hG ?_⟩
  have loop : ∀ (f x : Nat) (τ : ab_SG), x + f = 9 → ab_okM oz_M σ τ → τ 73 3 = s → (∀ y : Nat, y < x → τ 75 y = oz_grp A n s y) → G 8 [some (2, 73, 0), some (2, 3, 0), some (0, 0, n), some (0, 0, s), some (0, 0, (x : Int))] [] τ := by
    intro f
    induction f with
    | zero =>
      intro x τ hx M e I
      refine fs_group_8 hG ?_
      rw [oz_c9 x (by omega), c9]
      exact ⟨fun _ => h τ M e (fun y hy => I y (by omega)), fun z => absurd z (by omega)⟩
    | succ f ih =>
      intro x τ hx M e I
      have cx := oz_c9 x (by omega)
      have put : ∀ b0 : Int, fw_c b0 = oz_grp A n s x → G 46 [some (2, 73, 0), some (2, 3, 0), some (0, 0, n), some (0, 0, s), some (0, 0, (x : Int))] [(0, 0, b0), (0, 0, (x : Int)), (2, 75, 0)] τ := by
        intro b0 hb
        refine fs_group_46 hG ⟨by rw [cx]; omega, trivial, ?_⟩
        rw [cx, hb, Int.toNat_natCast]
        have k := ih (x + 1) (ab_ups τ 75 x (oz_grp A n s x)) (by omega) (fw_okM_upa M (by decide)) (by rw [ab_ups_ne (fun z => absurd z.1 (by decide))]; exact e) (fun y hy => by
          by_cases c : y = x
          · rw [c, ab_ups_eq]
          · rw [ab_ups_ne (fun z => c z.2)]
            exact I y (by omega))
        rw [show ((x + 1 : Nat) : Int) = (x : Int) + 1 from rfl] at k
        exact k
      refine fs_group_8 hG ?_
      rw [cx, c9]
      refine ⟨fun z => absurd z (by omega), fun _ => ⟨s, (x : Int), rfl, by rw [cx]; omega, fs_group_30 hG ⟨fun q => ?_, fun q => ?_⟩⟩⟩
      · refine put 0 ?_
        have : ¬ pr_hs s (x : Int) = true := fun z => fw_bo_eq q (hs_t z)
        show _ = if _ then _ else _
        rw [if_neg this]
        exact fw_c0
      · have hh := hs_of (fw_bo_ne q)
        have hx9 := ht x (by omega) hh
        refine ⟨A, x, n, 0, s, rfl, oz_NCM M (by decide +kernel) hN, hx9, hn, by decide, fs_group_42 hG (put _ ?_)⟩
        have lb := v_lk_b A (x : Int) n ((0 : Nat) : Int) s (A 49 11).toNat (by have := N_n hN.1; omega)
        show _ = if _ then _ else _
        rw [if_pos hh]
        exact fw_s (x := v_lk A (x : Int) n ((0 : Nat) : Int) s (A 49 11).toNat) (by omega) (by omega)
  have M0 : ab_okM oz_M σ (ab_ups σ 73 3 (fw_c s)) := fun a b q => ab_ups_ne (fun z => q (73, 3) (by decide) ⟨z.1.symm, Or.inl z.2.symm⟩)
  exact loop 9 0 _ rfl M0 (by rw [ab_ups_eq]; exact fw_s (by omega) (by omega)) (fun y hy => absurd hy (Nat.not_lt_zero y)))
theorem fm_listen (hinj : nn_inj ad) : fw_H l cy ad wr cr D 84 3 sp_listen := fw_mk hinj (⟨"NameNotes$Ear", "listen", "(LNameNotes$Studio;II)V"⟩, prog_3_method_3_code, 5, (Option.none : Option Jvm.ClassFile.FieldType), 3, true, 4) rfl rfl nn_KI9_ok nn_KJ9_ok nn_PF9_ok nn_PS9_ok (by decide +kernel) rfl rfl (List.forall_mem_cons.mpr ⟨fw_row nn_PM9_ok (x := 26) (k := 2) (mn := 34) (np := 2) (ob := false) (ci := 0) (⟨"NameNotes", "has", "(II)Z"⟩, prog_1_method_80_code, 2, (Option.some Jvm.ClassFile.FieldType.boolean), 2, false, 1) rfl (by decide +kernel) rfl rfl (by decide) (fun q => by cases q) (fm_has hinj), (List.forall_mem_cons.mpr ⟨fw_row nn_PM9_ok (x := 36) (k := 0) (mn := 68) (np := 2) (ob := true) (ci := 6) (⟨"NameNotes$Studio", "ninth", "(II)I"⟩, prog_8_method_13_code, 3, (Option.some Jvm.ClassFile.FieldType.int), 2, true, 0) rfl (by decide +kernel) rfl rfl (by decide) (fun _ => ⟨_, _, rfl⟩) (fm_ninth3 hinj), (fun _ h => absurd h List.not_mem_nil)⟩)⟩) (fun as σ K h => by
  obtain ⟨A, p, s, rfl, hN, hp, hs, h⟩ := h
  have c9 : fw_c ((9 : Nat) : Int) = 9 := oz_c9 9 (by decide)
  refine ⟨rfl, fun G hG => fs_listen_0 hG ?_⟩
  have loop : ∀ (f x : Nat) (τ : ab_SG), x + f = 9 → ab_okM [(74, 1000000)] σ τ → (∀ y : Nat, y < x → τ 74 y = if pr_hs s (y : Int) = true then 9 else A 55 (9 * p + y)) → G 3 [some (2, 73, 0), some (2, 3, 0), some (0, 0, (p : Int)), some (0, 0, s), some (0, 0, (x : Int))] [] τ := by
    intro f
    induction f with
    | zero =>
      intro x τ hx M I
      refine fs_listen_3 hG ?_
      rw [oz_c9 x (by omega), c9]
      refine ⟨fun _ => h τ (fun a b q => M a b (fun r hr => q r ?_)) (M 73 3 (fun q hq => ?_)) (fun y => M 75 y (fun q hq => ?_)) (fun y hy => I y (by omega)), fun z => absurd z (by omega)⟩
      · rw [List.mem_singleton] at hr
        rw [hr]
        decide
      · rw [List.mem_singleton] at hq
        rw [hq]
        exact fun z => absurd z.1 (by decide)
      · rw [List.mem_singleton] at hq
        rw [hq]
        exact fun z => absurd z.1 (by decide)
    | succ f ih =>
      intro x τ hx M I
      have cx := oz_c9 x (by omega)
      have put : ∀ b0 : Int, fw_c b0 = (if pr_hs s (x : Int) = true then 9 else A 55 (9 * p + x)) → G 40 [some (2, 73, 0), some (2, 3, 0), some (0, 0, (p : Int)), some (0, 0, s), some (0, 0, (x : Int))] [(0, 0, b0), (0, 0, (x : Int)), (2, 74, 0)] τ := by
        intro b0 hb
        refine fs_listen_40 hG ⟨by rw [cx]; omega, trivial, ?_⟩
        rw [cx, hb, Int.toNat_natCast]
        have k := ih (x + 1) (ab_ups τ 74 x (if pr_hs s (x : Int) = true then 9 else A 55 (9 * p + x))) (by omega) (fw_okM_upa M (by decide)) (fun y hy => by
          by_cases c : y = x
          · rw [c, ab_ups_eq]
          · rw [ab_ups_ne (fun z => c z.2)]
            exact I y (by omega))
        rw [show ((x + 1 : Nat) : Int) = (x : Int) + 1 from rfl] at k
        exact k
      refine fs_listen_3 hG ?_
      rw [cx, c9]
      refine ⟨fun z => absurd z (by omega), fun _ => ⟨s, (x : Int), rfl, by rw [cx]; omega, fs_listen_25 hG ⟨fun q => ?_, fun q => ?_⟩⟩⟩
      · have hh : ¬ pr_hs s (x : Int) = true := fun z => fw_bo_eq q (hs_t z)
        have e9 : τ 9 (9 * p + x) = σ 9 (9 * p + x) := M 9 _ (fun q hq => by rw [List.mem_singleton] at hq; rw [hq]; exact fun z => absurd z.1 (by decide))
        refine ⟨p, x, rfl, hp, by omega, put _ ?_⟩
        rw [if_neg hh, e9, oz_kn hN (by omega)]
        have b := oz_kn_b hN (j := 9 * p + x) (by omega)
        exact fw_s (by omega) (by omega)
      · have hh := hs_of (fw_bo_ne q)
        refine put 9 ?_
        rw [if_pos hh]
        exact c9
  exact loop 9 0 σ rfl (fw_okM_refl _ _) (fun y hy => absurd hy (Nat.not_lt_zero y)))
theorem oz_kv1 : ∀ j : Nat, j < 10 → fw_kv 1 j = (9 : Int) ^ j := by decide +kernel
theorem oz_kv2 : ∀ j : Nat, j < 9 → fw_kv 2 j = ((2520 / (j + 1) : Nat) : Int) := by decide +kernel
theorem fm_atN (hinj : nn_inj ad) : fw_H l cy ad wr cr D 87 0 sp_atN := fw_mk hinj (⟨"NameNotes", "at", "([JI)J"⟩, prog_1_method_85_code, 2, (Option.some Jvm.ClassFile.FieldType.long), 2, false, 2) rfl rfl nn_KI1_ok nn_KJ1_ok nn_PF1_ok nn_PS1_ok (by decide +kernel) rfl rfl (fun _ h => absurd h List.not_mem_nil) (fun as σ K h => by
  obtain ⟨j, rfl, hj, h⟩ := h
  have cj := oz_c9 j hj
  refine ⟨rfl, fun G hG => fs_atN_0 hG ?_⟩
  rw [cj, show fw_c ((10 : Nat) : Int) = 10 from fw_s (by decide) (by decide), Int.toNat_natCast, oz_kv1 j hj]
  exact ⟨fun z => absurd z (by omega), fun _ => ⟨fun z => absurd z (by omega), fun _ => ⟨by omega, h⟩⟩⟩)
theorem fm_atS (hinj : nn_inj ad) : fw_H l cy ad wr cr D 29 0 sp_atS := fw_mk hinj (⟨"NameNotes", "at", "([II)I"⟩, prog_1_method_84_code, 2, (Option.some Jvm.ClassFile.FieldType.int), 2, false, 0) rfl rfl nn_KI1_ok nn_KJ1_ok nn_PF1_ok nn_PS1_ok (by decide +kernel) rfl rfl (fun _ h => absurd h List.not_mem_nil) (fun as σ K h => by
  obtain ⟨j, rfl, hj, h⟩ := h
  have cj := oz_c9 j (by omega)
  refine ⟨rfl, fun G hG => fs_atS_0 hG ?_⟩
  rw [cj, show fw_c ((9 : Nat) : Int) = 9 from oz_c9 9 (by decide), Int.toNat_natCast, oz_kv2 j hj]
  exact ⟨fun z => absurd z (by omega), fun _ => ⟨fun z => absurd z (by omega), fun _ => ⟨by omega, h⟩⟩⟩)
theorem fm_knowsAny (hinj : nn_inj ad) : fw_H l cy ad wr cr D 86 2 sp_knowsAny := fw_mk hinj (⟨"NameNotes$Ear", "knowsAny", "(I)J"⟩, prog_3_method_7_code, 6, (Option.some Jvm.ClassFile.FieldType.long), 1, true, 2) rfl rfl nn_KI9_ok nn_KJ9_ok nn_PF9_ok nn_PS9_ok (by decide +kernel) rfl rfl (List.forall_mem_cons.mpr ⟨fw_row nn_PM9_ok (x := 26) (k := 2) (mn := 34) (np := 2) (ob := false) (ci := 0) (⟨"NameNotes", "has", "(II)Z"⟩, prog_1_method_80_code, 2, (Option.some Jvm.ClassFile.FieldType.boolean), 2, false, 1) rfl (by decide +kernel) rfl rfl (by decide) (fun q => by cases q) (fm_has hinj), (List.forall_mem_cons.mpr ⟨fw_row nn_PM9_ok (x := 54) (k := 2) (mn := 87) (np := 2) (ob := false) (ci := 0) (⟨"NameNotes", "at", "([JI)J"⟩, prog_1_method_85_code, 2, (Option.some Jvm.ClassFile.FieldType.long), 2, false, 2) rfl (by decide +kernel) rfl rfl (by decide) (fun q => by cases q) (fm_atN hinj), (fun _ h => absurd h List.not_mem_nil)⟩)⟩) (fun as σ K h => by
  obtain ⟨g, rfl, hg, hk, h⟩ := h
  have c9 : fw_c ((9 : Nat) : Int) = 9 := oz_c9 9 (by decide)
  have cb : ∀ Y : Nat, oz_cnt (oz_P g) Y ≤ Y := oz_cnt_le (oz_P g)
  refine ⟨rfl, fun G hG => fs_knowsAny_0 hG ?_⟩
  have loop : ∀ (f y : Nat), y + f = 9 → G 8 [some (2, 73, 0), some (0, 0, g), some (1, 0, oz_non (σ 74) (oz_P g) y), none, some (0, 0, (oz_cnt (oz_P g) y : Int)), some (0, 0, (y : Int))] [] σ := by
    intro f
    induction f with
    | zero =>
      intro y hy
      have e : y = 9 := by omega
      subst e
      have b := cb 9
      refine fs_knowsAny_8 hG ?_
      rw [oz_c9 9 (by decide)]
      refine ⟨fun _ => ⟨_, rfl, by omega, fs_knowsAny_58 hG ⟨9 - oz_cnt (oz_P g) 9, by rw [show (((9 - oz_cnt (oz_P g) 9 : Nat)) : Int) = 9 - ((oz_cnt (oz_P g) 9 : Nat) : Int) by omega], by omega, fs_knowsAny_71 hG h⟩⟩, fun z => absurd z (by omega)⟩
    | succ f ih =>
      intro y hy
      have cy := oz_c9 y (by omega)
      have k := ih (y + 1) (by omega)
      refine fs_knowsAny_8 hG ?_
      rw [cy, c9]
      refine ⟨fun z => absurd z (by omega), fun _ => ⟨g, (y : Int), rfl, by rw [cy]; omega, fs_knowsAny_24 hG ⟨fun q => fs_knowsAny_44 hG ?_, fun q => ⟨by rw [cy]; omega, fs_knowsAny_44 hG ?_⟩⟩⟩⟩
      · have hh : oz_P g y = false := by
          rw [← Bool.not_eq_true]
          exact fun z => fw_bo_eq q (hs_t z)
        have e1 : oz_non (σ 74) (oz_P g) (y + 1) = oz_non (σ 74) (oz_P g) y := by show cond _ _ _ = _; rw [hh]; rfl
        have e2 : oz_cnt (oz_P g) (y + 1) = oz_cnt (oz_P g) y := by show cond _ _ _ = _; rw [hh]; rfl
        rw [e1, e2] at k
        exact k
      · have hh : oz_P g y = true := hs_of (fw_bo_ne q)
        have e1 : oz_non (σ 74) (oz_P g) (y + 1) = oz_non (σ 74) (oz_P g) y * (9 - σ 74 y) := by show cond _ _ _ = _; rw [hh]; rfl
        have e2 : oz_cnt (oz_P g) (y + 1) = oz_cnt (oz_P g) y + 1 := by show cond _ _ _ = _; rw [hh]; rfl
        have b := hk y (by omega)
        rw [e1, e2] at k
        rw [cy, Int.toNat_natCast, fw_s (x := 9 - σ 74 y) (by omega) (by omega)]
        exact k
  exact loop 9 0 rfl)
theorem fm_bitc9 (hinj : nn_inj ad) : fw_H l cy ad wr cr D 88 0 sp_bitc9 := fw_mk hinj (⟨"java/lang/Integer", "bitCount", "(I)I"⟩, prog_20_method_49_code, 1, (Option.some Jvm.ClassFile.FieldType.int), 1, false, 0) rfl rfl nn_KI12_ok nn_KJ12_ok nn_PF12_ok nn_PS12_ok (by decide +kernel) rfl rfl (fun _ h => absurd h List.not_mem_nil) (fun as σ K h => by
  obtain ⟨s, rfl, hs, h⟩ := h
  obtain ⟨t, rfl⟩ := Int.eq_ofNat_of_zero_le hs.1
  rw [← ob_ex t (by omega)] at h
  refine ⟨rfl, fun G hG => ?_⟩
  have g5 : G 48 [some (0, 0, ob5 (ob4 (ob3 (ob2 (ob1 (t : Int))))))] [] σ := fs_bitc9_48 hG h
  have g4 : G 41 [some (0, 0, ob4 (ob3 (ob2 (ob1 (t : Int)))))] [] σ := fs_bitc9_41 hG g5
  have g3 : G 34 [some (0, 0, ob3 (ob2 (ob1 (t : Int))))] [] σ := fs_bitc9_34 hG g4
  have g2 : G 24 [some (0, 0, ob2 (ob1 (t : Int)))] [] σ := fs_bitc9_24 hG g3
  have g1 : G 10 [some (0, 0, ob1 (t : Int))] [] σ := fs_bitc9_10 hG g2
  exact fs_bitc9_0 hG g1)
theorem fm_chance (hinj : nn_inj ad) : fw_H l cy ad wr cr D 85 3 sp_chance := fw_mk hinj (⟨"NameNotes$Ear", "chance", "()J"⟩, prog_3_method_6_code, 4, (Option.some Jvm.ClassFile.FieldType.long), 0, true, 2) rfl rfl nn_KI9_ok nn_KJ9_ok nn_PF9_ok nn_PS9_ok (by decide +kernel) rfl rfl (List.forall_mem_cons.mpr ⟨fw_row nn_PM9_ok (x := 26) (k := 2) (mn := 34) (np := 2) (ob := false) (ci := 0) (⟨"NameNotes", "has", "(II)Z"⟩, prog_1_method_80_code, 2, (Option.some Jvm.ClassFile.FieldType.boolean), 2, false, 1) rfl (by decide +kernel) rfl rfl (by decide) (fun q => by cases q) (fm_has hinj), (List.forall_mem_cons.mpr ⟨fw_row nn_PM9_ok (x := 40) (k := 2) (mn := 29) (np := 2) (ob := false) (ci := 0) (⟨"NameNotes", "at", "([II)I"⟩, prog_1_method_84_code, 2, (Option.some Jvm.ClassFile.FieldType.int), 2, false, 0) rfl (by decide +kernel) rfl rfl (by decide) (fun q => by cases q) (fm_atS hinj), (List.forall_mem_cons.mpr ⟨fw_row nn_PM9_ok (x := 57) (k := 2) (mn := 77) (np := 2) (ob := false) (ci := 0) (⟨"NameNotes", "isLeast", "(II)Z"⟩, prog_1_method_81_code, 2, (Option.some Jvm.ClassFile.FieldType.boolean), 2, false, 1) rfl (by decide +kernel) rfl rfl (by decide) (fun q => by cases q) (fm_isLeast hinj), (List.forall_mem_cons.mpr ⟨fw_row nn_PM9_ok (x := 60) (k := 0) (mn := 86) (np := 1) (ob := true) (ci := 1) (⟨"NameNotes$Ear", "knowsAny", "(I)J"⟩, prog_3_method_7_code, 6, (Option.some Jvm.ClassFile.FieldType.long), 1, true, 2) rfl (by decide +kernel) rfl rfl (by decide) (fun _ => ⟨_, _, rfl⟩) (fm_knowsAny hinj), (List.forall_mem_cons.mpr ⟨fw_row nn_PM9_ok (x := 64) (k := 0) (mn := 88) (np := 1) (ob := false) (ci := 0) (⟨"java/lang/Integer", "bitCount", "(I)I"⟩, prog_20_method_49_code, 1, (Option.some Jvm.ClassFile.FieldType.int), 1, false, 0) rfl (by decide +kernel) rfl rfl (by decide) (fun q => by cases q) (fm_bitc9 hinj), (fun _ h => absurd h List.not_mem_nil)⟩)⟩)⟩)⟩)⟩) (fun as σ K h => by
  obtain ⟨s, rfl, es, hs, hg, hk, h⟩ := h
  have c9 : fw_c ((9 : Nat) : Int) = 9 := oz_c9 9 (by decide)
  have cp := oz_cnt_pos hs.1 hs.2
  have cl := oz_cnt_le (oz_P s) 9
  refine ⟨rfl, fun G hG => fs_chance_0 hG ?_⟩
  have loop : ∀ (f x : Nat), x + f = 9 → G 4 [some (2, 73, 0), some (1, 0, oz_sm (σ 74) (σ 75) s x), none, some (0, 0, (x : Int))] [] σ := by
    intro f
    induction f with
    | zero =>
      intro x hx
      have e : x = 9 := by omega
      subst e
      refine fs_chance_4 hG ?_
      rw [oz_c9 9 (by decide), es]
      refine ⟨fun _ => ⟨s, rfl, by omega, fs_chance_67 hG ⟨oz_cnt (oz_P s) 9 - 1, by rw [show (((oz_cnt (oz_P s) 9 - 1 : Nat)) : Int) = ((oz_cnt (oz_P s) 9 : Nat) : Int) - 1 by omega], by omega, fs_chance_72 hG ?_⟩⟩, fun z => absurd z (by omega)⟩
      have b : (((2520 / (oz_cnt (oz_P s) 9 - 1 + 1) : Nat)) : Int) ≤ 2520 := by
        have := Nat.div_le_self 2520 (oz_cnt (oz_P s) 9 - 1 + 1)
        omega
      have b0 : ((0 : Nat) : Int) ≤ (((2520 / (oz_cnt (oz_P s) 9 - 1 + 1) : Nat)) : Int) := Int.ofNat_le.mpr (Nat.zero_le _)
      rw [fw_c_id (x := (((2520 / (oz_cnt (oz_P s) 9 - 1 + 1) : Nat)) : Int)) (by omega) (by omega)]
      exact h
    | succ f ih =>
      intro x hx
      have cx := oz_c9 x (by omega)
      have k := ih (x + 1) (by omega)
      have skip : (oz_P s x && oz_lst (σ 75 x) x) = false → G 50 [some (2, 73, 0), some (1, 0, oz_sm (σ 74) (σ 75) s x), none, some (0, 0, (x : Int))] [] σ := by
        intro q
        have e : oz_sm (σ 74) (σ 75) s (x + 1) = oz_sm (σ 74) (σ 75) s x := by show cond _ _ _ = _; rw [q]; rfl
        rw [e] at k
        exact fs_chance_50 hG k
      refine fs_chance_4 hG ?_
      rw [cx, c9, es]
      refine ⟨fun z => absurd z (by omega), fun _ => ⟨s, (x : Int), rfl, by rw [cx]; omega, fs_chance_21 hG ⟨fun q => skip ?_, fun q => ⟨by rw [cx]; omega, ?_⟩⟩⟩⟩
      · have hh : oz_P s x = false := by
          rw [← Bool.not_eq_true]
          exact fun z => fw_bo_eq q (hs_t z)
        rw [hh]
        rfl
      · have hh : oz_P s x = true := hs_of (fw_bo_ne q)
        rw [cx, Int.toNat_natCast]
        refine ⟨σ 75 x, (x : Int), rfl, fs_chance_34 hG ⟨fun q2 => skip ?_, fun q2 => ⟨by rw [cx]; omega, ?_⟩⟩⟩
        · have h2 : oz_lst (σ 75 x) x = false := decide_eq_false (fun z => fw_bo_eq q2 z)
          rw [h2, Bool.and_false]
        · have h2 : oz_lst (σ 75 x) x = true := decide_eq_true (fw_bo_ne q2)
          rw [cx, Int.toNat_natCast]
          refine ⟨σ 75 x, rfl, hg x (by omega), hk, fs_chance_48 hG (fs_chance_50 hG ?_)⟩
          have e : oz_sm (σ 74) (σ 75) s (x + 1) = oz_sm (σ 74) (σ 75) s x + oz_any (σ 74) (σ 75 x) := by show cond _ _ _ = _; rw [hh, h2]; rfl
          rw [e] at k
          exact k
  exact loop 9 0 rfl)
theorem fm_chanceOf (hinj : nn_inj ad) : fw_H l cy ad wr cr D 82 4 sp_chanceOf := fw_mk hinj (⟨"NameNotes", "chanceOf", "(III)J"⟩, prog_1_method_65_code, 4, (Option.some Jvm.ClassFile.FieldType.long), 3, true, 2) rfl rfl nn_KI1_ok nn_KJ1_ok nn_PF1_ok nn_PS1_ok (by decide +kernel) rfl rfl (List.forall_mem_cons.mpr ⟨fw_row nn_PM1_ok (x := 320) (k := 0) (mn := 83) (np := 3) (ob := true) (ci := 1) (⟨"NameNotes$Ear", "group", "(LNameNotes$Studio;II)V"⟩, prog_3_method_2_code, 5, (Option.none : Option Jvm.ClassFile.FieldType), 3, true, 4) rfl (by decide +kernel) rfl rfl (by decide) (fun _ => ⟨_, _, rfl⟩) (fm_group hinj), (List.forall_mem_cons.mpr ⟨fw_row nn_PM1_ok (x := 329) (k := 0) (mn := 84) (np := 3) (ob := true) (ci := 1) (⟨"NameNotes$Ear", "listen", "(LNameNotes$Studio;II)V"⟩, prog_3_method_3_code, 5, (Option.none : Option Jvm.ClassFile.FieldType), 3, true, 4) rfl (by decide +kernel) rfl rfl (by decide) (fun _ => ⟨_, _, rfl⟩) (fm_listen hinj), (List.forall_mem_cons.mpr ⟨fw_row nn_PM1_ok (x := 332) (k := 0) (mn := 85) (np := 0) (ob := true) (ci := 1) (⟨"NameNotes$Ear", "chance", "()J"⟩, prog_3_method_6_code, 4, (Option.some Jvm.ClassFile.FieldType.long), 0, true, 2) rfl (by decide +kernel) rfl rfl (by decide) (fun _ => ⟨_, _, rfl⟩) (fm_chance hinj), (fun _ h => absurd h List.not_mem_nil)⟩)⟩)⟩) (fun as σ K h => by
  obtain ⟨A, p, n, s, rfl, hN, hp, hn, hs, ht, h⟩ := h
  refine ⟨rfl, fun G hG => fs_chanceOf_0 hG ⟨A, n, s, rfl, hN, hn, by omega, ht, fun σ1 M1 e1 I1 => fs_chanceOf_13 hG ⟨A, p, 0, rfl, oz_NCM M1 (by decide +kernel) hN, hp, by decide, fun σ2 M2 e2 I2 J2 => fs_chanceOf_26 hG ⟨s, rfl, e2.trans e1, hs, fun x hx => by rw [I2 x, I1 x hx]; exact oz_grp_b hN.1 n s x, fun y hy => by rw [J2 y hy, if_neg (by rw [hs_0 y hy]; exact Bool.false_ne_true)]; exact oz_kn_b hN (by omega), fs_chanceOf_33 hG ?_⟩⟩⟩⟩
  have e : oz_ch (σ2 74) (σ2 75) s = oz_odds A p n s := by
    unfold oz_odds oz_ch
    rw [oz_sm_congr (κ' := oz_kp A p) (γ' := oz_grp A n s) (fun y hy => by rw [J2 y hy, if_neg (by rw [hs_0 y hy]; exact Bool.false_ne_true)]; rfl) (fun x hx => by rw [I2 x, I1 x hx])]
  rw [e]
  exact h σ2 (fun a b q => (M2 a b q).trans (M1 a b q)))
end
