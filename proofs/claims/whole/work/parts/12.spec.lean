section SPEC
/-! what the house's numbers are: functions -/
def isqN (v : Nat) : Nat → Nat
  | 0 => 0
  | k + 1 => if (k + 1) * (k + 1) ≤ v then k + 1 else isqN v k
def isq (v : Int) : Int := (isqN v.toNat v.toNat : Nat)
theorem isqN_le (v : Nat) : ∀ k, isqN v k * isqN v k ≤ v := by
  intro k
  induction k with
  | zero => simp [isqN]
  | succ k ih =>
    unfold isqN
    split
    · assumption
    · exact ih
theorem isqN_lt (v : Nat) : ∀ k, v < (k + 1) * (k + 1) → v < (isqN v k + 1) * (isqN v k + 1) := by
  intro k
  induction k with
  | zero => intro h; simpa [isqN] using h
  | succ k ih =>
    intro h
    unfold isqN
    split
    · exact h
    · rename_i h1
      exact ih (by omega)
theorem isq_nonneg (v : Int) : 0 ≤ isq v := Int.natCast_nonneg _
theorem isq_le {v : Int} (h : 0 ≤ v) : isq v * isq v ≤ v := by
  have h1 := isqN_le v.toNat v.toNat
  unfold isq
  rw [← Int.natCast_mul]
  omega
theorem isq_lt {v : Int} (h : 0 ≤ v) : v < (isq v + 1) * (isq v + 1) := by
  have h1 := isqN_lt v.toNat v.toNat (by
    have : (v.toNat + 1) * (v.toNat + 1) = v.toNat * v.toNat + 2 * v.toNat + 1 := by rw [Nat.add_mul, Nat.mul_add]; omega
    omega)
  have e : (isq v + 1) * (isq v + 1) = (((isqN v.toNat v.toNat + 1) * (isqN v.toNat v.toNat + 1) : Nat) : Int) := by
    unfold isq
    rw [Int.natCast_mul]
    rfl
  rw [e]
  omega
theorem sq_lt {a b : Int} (ha : 0 ≤ a) (hb : 0 ≤ b) (h : a * a < b * b) : a < b := by
  rcases Int.lt_or_le a b with q | q
  · exact q
  · have := Int.mul_le_mul q q hb ha
    omega
theorem sq_mono {a b : Int} (ha : 0 ≤ a) (h : a ≤ b) : a * a ≤ b * b := Int.mul_le_mul h h ha (by omega)
theorem isq_uniq {v r : Int} (hr : 0 ≤ r) (h1 : r * r ≤ v) (h2 : v < (r + 1) * (r + 1)) : isq v = r := by
  have hv : 0 ≤ v := Int.le_trans (Int.mul_nonneg hr hr) h1
  have a1 := isq_le hv
  have a2 := isq_lt hv
  have a0 := isq_nonneg v
  have b1 : isq v < r + 1 := sq_lt a0 (by omega) (by omega)
  have b2 : r < isq v + 1 := sq_lt hr (by omega) (by omega)
  omega
def underV (a b x p : Int) : Int := (a * x + b) * 10 ^ (2 * p).toNat
def aboveV (s a b x p : Int) : Int := if s = 1 then 1000 * a * 10 ^ p.toNat else (x * x + a * x + b) * 10 ^ p.toNat
def belowV (s b x : Int) : Int := if s = 1 then x + b else 7
def exactV (s a b x p : Int) : Int := if s = 0 then isq (underV a b x p) else aboveV s a b x p / belowV s b x
def nearBy (a b h : Int) : Int := if 2 * (a - a / b * b) ≠ b then (if 2 * (a - a / b * b) > b then a / b + 1 else a / b) else if h = 0 ∨ (h = 1 ∧ a / b % 2 ≠ 0) then a / b + 1 else a / b
def nearV (s a b x p h : Int) : Int := if s = 0 then (if underV a b x p > isq (underV a b x p) * isq (underV a b x p) + isq (underV a b x p) then isq (underV a b x p) + 1 else isq (underV a b x p)) else nearBy (aboveV s a b x p) (belowV s b x) h
/-- a function's record -/
abbrev FN (mem : Int → Int → Int) (f : Int) : Prop := 0 ≤ f ∧ f < 10 ∧ 0 ≤ mem 36 f ∧ mem 36 f ≤ 2 ∧ 1 ≤ mem 37 f ∧ mem 37 f ≤ 99 ∧ 0 ≤ mem 38 f ∧ mem 38 f ≤ 99
abbrev XP (x p : Int) : Prop := 1 ≤ x ∧ x ≤ 9999 ∧ 0 ≤ p ∧ p ≤ 6
abbrev AB (a b : Int) : Prop := 1 ≤ a ∧ a ≤ 99 ∧ 0 ≤ b ∧ b ≤ 99
theorem ten_cases {p : Int} (h : 0 ≤ p ∧ p ≤ 6) : (p = 0 ∧ (10 : Int) ^ p.toNat = 1) ∨ (p = 1 ∧ (10 : Int) ^ p.toNat = 10) ∨ (p = 2 ∧ (10 : Int) ^ p.toNat = 100) ∨ (p = 3 ∧ (10 : Int) ^ p.toNat = 1000) ∨ (p = 4 ∧ (10 : Int) ^ p.toNat = 10000) ∨ (p = 5 ∧ (10 : Int) ^ p.toNat = 100000) ∨ (p = 6 ∧ (10 : Int) ^ p.toNat = 1000000) := by
  rcases (show p = 0 ∨ p = 1 ∨ p = 2 ∨ p = 3 ∨ p = 4 ∨ p = 5 ∨ p = 6 by omega) with rfl | rfl | rfl | rfl | rfl | rfl | rfl <;> decide
theorem ten_bd {p : Int} (h : 0 ≤ p ∧ p ≤ 6) : 1 ≤ (10 : Int) ^ p.toNat ∧ (10 : Int) ^ p.toNat ≤ 1000000 := by
  rcases ten_cases h with h | h | h | h | h | h | h <;> omega
theorem ten_cases12 {p : Int} (h : 0 ≤ p ∧ p ≤ 12) : 1 ≤ (10 : Int) ^ p.toNat ∧ (10 : Int) ^ p.toNat ≤ 1000000000000 := by
  rcases (show p = 0 ∨ p = 1 ∨ p = 2 ∨ p = 3 ∨ p = 4 ∨ p = 5 ∨ p = 6 ∨ p = 7 ∨ p = 8 ∨ p = 9 ∨ p = 10 ∨ p = 11 ∨ p = 12 by omega) with rfl | rfl | rfl | rfl | rfl | rfl | rfl | rfl | rfl | rfl | rfl | rfl | rfl <;> decide
theorem mul_bd {a b M N : Int} (ha : 0 ≤ a ∧ a ≤ M) (hb : 0 ≤ b ∧ b ≤ N) : 0 ≤ a * b ∧ a * b ≤ M * N := ⟨Int.mul_nonneg ha.1 hb.1, Int.mul_le_mul ha.2 hb.2 hb.1 (by omega)⟩
theorem under_bd {a b x p : Int} (h : AB a b) (hx : XP x p) : 0 ≤ underV a b x p ∧ underV a b x p ≤ 990000000000000000 := by
  have h1 := mul_bd (a := a) (b := x) (M := 99) (N := 9999) (by omega) (by omega)
  have h2 := ten_cases12 (p := 2 * p) (by omega)
  have h3 := mul_bd (a := a * x + b) (b := 10 ^ (2 * p).toNat) (M := 990000) (N := 1000000000000) (by omega) (by omega)
  unfold underV
  omega
theorem above_bd {s a b x p : Int} (h : AB a b) (hx : XP x p) : 0 ≤ aboveV s a b x p ∧ aboveV s a b x p ≤ 200000000000000 := by
  have h2 := ten_bd (p := p) (by omega)
  unfold aboveV
  split
  · have h3 := mul_bd (a := 1000 * a) (b := 10 ^ p.toNat) (M := 99000) (N := 1000000) (by omega) (by omega)
    omega
  · have h1 := mul_bd (a := a) (b := x) (M := 99) (N := 9999) (by omega) (by omega)
    have h0 := mul_bd (a := x) (b := x) (M := 9999) (N := 9999) (by omega) (by omega)
    have h3 := mul_bd (a := x * x + a * x + b) (b := 10 ^ p.toNat) (M := 200000000) (N := 1000000) (by omega) (by omega)
    omega
theorem below_bd {s b x : Int} (h : 0 ≤ b ∧ b ≤ 99) (hx : 1 ≤ x ∧ x ≤ 9999) : 1 ≤ belowV s b x ∧ belowV s b x ≤ 10098 := by
  unfold belowV
  split <;> omega
theorem isq_bd {v : Int} (h : 0 ≤ v ∧ v ≤ 990000000000000000) : 0 ≤ isq v ∧ isq v ≤ 1000000000 := by
  refine ⟨isq_nonneg v, ?_⟩
  have h1 := isq_le h.1
  have : isq v < 1000000001 := sq_lt (isq_nonneg v) (by omega) (by omega)
  omega
theorem exact_bd {s a b x p : Int} (h : AB a b) (hx : XP x p) : 0 ≤ exactV s a b x p ∧ exactV s a b x p ≤ 200000000000000 := by
  unfold exactV
  split
  · have := isq_bd (under_bd h hx)
    omega
  · have h1 := above_bd (s := s) h hx
    have h2 := below_bd (s := s) (b := b) (x := x) (by omega) (by omega)
    refine ⟨Int.ediv_nonneg h1.1 (by omega), ?_⟩
    have h3 := Int.ediv_le_self (belowV s b x) h1.1
    omega
theorem nearBy_bd {a b h : Int} (ha : 0 ≤ a) (hb : 1 ≤ b) : 0 ≤ nearBy a b h ∧ nearBy a b h ≤ a + 1 := by
  have h1 := Int.ediv_nonneg ha (by omega : 0 ≤ b)
  have h3 := Int.ediv_le_self b ha
  unfold nearBy
  split
  · split <;> omega
  · split <;> omega
theorem near_bd {s a b x p h : Int} (hab : AB a b) (hx : XP x p) : 0 ≤ nearV s a b x p h ∧ nearV s a b x p h ≤ 200000000000001 := by
  unfold nearV
  split
  · have := isq_bd (under_bd hab hx)
    split <;> omega
  · have h1 := above_bd (s := s) hab hx
    have h2 := below_bd (s := s) (b := b) (x := x) (by omega) (by omega)
    have h3 := nearBy_bd (h := h) h1.1 h2.1
    omega
end SPEC
section FLOORS
theorem fdiv_t (x y : Int) (hy : 1 ≤ y) : (0 ≤ x → x.tdiv y = x / y) ∧ (x < 0 → (x.tdiv y * y = x → x.tdiv y = x / y) ∧ (x.tdiv y * y ≠ x → x.tdiv y = x / y + 1)) := by
  refine ⟨fun h => Int.tdiv_eq_ediv_of_nonneg h, fun h => ?_⟩
  have h1 : x.tdiv y = -((-x) / y) := by
    rw [← Int.tdiv_eq_ediv_of_nonneg (by omega : 0 ≤ -x), Int.neg_tdiv, Int.neg_neg]
  have h2 := Int.mul_ediv_add_emod (-x) y
  have h3 := Int.emod_nonneg (-x) (by omega : y ≠ 0)
  have h4 := Int.emod_lt_of_pos (-x) (by omega : 0 < y)
  have h5 := Int.mul_ediv_add_emod x y
  have h6 := Int.emod_nonneg x (by omega : y ≠ 0)
  have h7 := Int.emod_lt_of_pos x (by omega : 0 < y)
  rw [h1]
  generalize hq : (-x) / y = q at *
  generalize hr : (-x) % y = r at *
  generalize hq' : x / y = q' at *
  generalize hr' : x % y = r' at *
  have e1 : y * (q + q') = -(r + r') := by rw [Int.mul_add]; omega
  have e2 : -q * y = -(y * q) := by rw [Int.neg_mul, Int.mul_comm]
  constructor
  · intro he
    have : r = 0 := by omega
    have h8 : y * (q + q') = -r' := by omega
    have : q + q' = 0 := by
      rcases Int.lt_trichotomy (q + q') 0 with q1 | q1 | q1
      · have := Int.mul_le_mul_of_nonneg_left (show q + q' ≤ -1 by omega) (show 0 ≤ y by omega)
        omega
      · exact q1
      · have := Int.mul_le_mul_of_nonneg_left (show 1 ≤ q + q' by omega) (show 0 ≤ y by omega)
        omega
    omega
  · intro he
    have : 0 < r := by omega
    have : q + q' = -1 := by
      rcases Int.lt_trichotomy (q + q') (-1) with q1 | q1 | q1
      · have := Int.mul_le_mul_of_nonneg_left (show q + q' ≤ -2 by omega) (show 0 ≤ y by omega)
        omega
      · exact q1
      · have := Int.mul_le_mul_of_nonneg_left (show 0 ≤ q + q' by omega) (show 0 ≤ y by omega)
        omega
    omega
theorem fmod_t (x y : Int) (hy : 1 ≤ y) : (0 ≤ x → x.tmod y = x % y) ∧ (x < 0 → (x.tmod y = 0 → x % y = 0) ∧ (x.tmod y ≠ 0 → x.tmod y + y = x % y) ∧ x.tmod y ≤ 0 ∧ -y < x.tmod y) := by
  refine ⟨fun h => Int.tmod_eq_emod_of_nonneg h, fun h => ?_⟩
  obtain ⟨-, hd⟩ := fdiv_t x y hy
  obtain ⟨d1, d2⟩ := hd h
  have h1 : x.tmod y = x - x.tdiv y * y := by rw [Int.tmod_def, Int.mul_comm]
  have h5 := Int.mul_ediv_add_emod x y
  have h6 := Int.emod_nonneg x (by omega : y ≠ 0)
  have h7 := Int.emod_lt_of_pos x (by omega : 0 < y)
  have hb := (tmod_bounds (a := x) (M := y) (by omega)).1
  rw [h1] at hb ⊢
  have k1 : x.tdiv y * y = x → y * (x / y) = x.tdiv y * y := fun he => by rw [d1 he, Int.mul_comm]
  have k2 : x.tdiv y * y ≠ x → x.tdiv y * y = y * (x / y) + y := fun he => by rw [d2 he, Int.add_mul, Int.mul_comm]; omega
  clear d1 d2 h1 hd
  generalize x.tdiv y * y = A at *
  generalize y * (x / y) = B at *
  generalize x % y = C at *
  by_cases he : A = x
  · have := k1 he
    omega
  · have := k2 he
    omega
theorem tdiv_mul_bd (x y : Int) (hx : x < 0) (hy : 1 ≤ y) : x ≤ x.tdiv y * y ∧ x.tdiv y * y ≤ 0 := by
  have hb := tmod_bounds (a := x) (M := y) (by omega)
  have h1 : x.tmod y = x - x.tdiv y * y := by rw [Int.tmod_def, Int.mul_comm]
  have h2 := ((fmod_t x y hy).2 hx).2.2.1
  have h3 : x.tdiv y ≤ 0 := by
    have : x.tdiv y = -((-x) / y) := by
      rw [← Int.tdiv_eq_ediv_of_nonneg (by omega : 0 ≤ -x), Int.neg_tdiv, Int.neg_neg]
    have := Int.ediv_nonneg (show 0 ≤ -x by omega) (show 0 ≤ y by omega)
    omega
  have h4 := Int.mul_nonneg (show 0 ≤ -(x.tdiv y) by omega) (show 0 ≤ y by omega)
  rw [Int.neg_mul] at h4
  omega
theorem flxor_in (x y : Int) : InL (flxor x y) := L_in _
theorem flxor_sgn (x y : Int) (hx : InL x) (hy : InL y) (h0 : 0 ≤ y) : (flxor x y < 0 ↔ x < 0) := by
  have s1 : ∀ a : Int64, a.toInt < 0 ↔ a.toBitVec.msb = true := fun a => by
    show a.toBitVec.toInt < 0 ↔ _
    rw [BitVec.msb_eq_toInt, decide_eq_true_iff]
  have e : (Int64.ofInt x ^^^ Int64.ofInt y).toBitVec.msb = ((Int64.ofInt x).toBitVec.msb ^^ (Int64.ofInt y).toBitVec.msb) := by
    rw [Int64.toBitVec_xor, BitVec.msb_xor]
  have hy2 : (Int64.ofInt y).toBitVec.msb = false := by
    have h := s1 (Int64.ofInt y)
    rw [L_toInt hy] at h
    cases hb : (Int64.ofInt y).toBitVec.msb with
    | false => rfl
    | true => have := h.mpr hb; omega
  unfold flxor
  rw [s1, e, hy2, Bool.xor_false, ← s1, L_toInt hx]
end FLOORS
