section HOUSE
/-! what each call answers and keeps, in the reference's own cells (35: its numbers; 36 and on: its rows) -/
theorem ediv_bd (a b : Int) (hb : 1 ≤ b) : (0 ≤ a → 0 ≤ a / b ∧ a / b ≤ a) ∧ (a < 0 → a ≤ a / b ∧ a / b ≤ -1) := by
  refine ⟨fun h => ⟨Int.ediv_nonneg h (by omega), Int.ediv_le_self b h⟩, fun h => ⟨?_, ?_⟩⟩
  · rw [Int.le_ediv_iff_mul_le (by omega)]
    have := Int.mul_nonneg (show 0 ≤ -a by omega) (show 0 ≤ b - 1 by omega)
    rw [Int.mul_sub, Int.neg_mul, Int.mul_one] at this
    omega
  · have := Int.ediv_lt_of_lt_mul (a := a) (b := 0) (c := b) (by omega) (by omega)
    omega
theorem ediv_mul_bd (a b : Int) (hb : 1 ≤ b) : a / b * b ≤ a ∧ a < a / b * b + b := by
  have h1 := Int.mul_ediv_add_emod a b
  have h2 := Int.emod_nonneg a (by omega : b ≠ 0)
  have h3 := Int.emod_lt_of_pos a (by omega : 0 < b)
  have h4 : a / b * b = b * (a / b) := Int.mul_comm _ _
  generalize a % b = r at *
  omega
theorem near_un (s a b x p h : Int) (h0 : s = 0) : nearV s a b x p h = if underV a b x p > isq (underV a b x p) * isq (underV a b x p) + isq (underV a b x p) then isq (underV a b x p) + 1 else isq (underV a b x p) := by
  unfold nearV
  rw [if_pos h0]
/-- days, as -/
def nowOK (mem : Int → Int → Int) : Prop := 0 ≤ mem 35 0 ∧ mem 35 0 ≤ 1000 ∧ -1 ≤ mem 35 2 ∧ mem 35 2 ≤ mem 35 0
/-- functions -/
abbrev fnA (mem : Int → Int → Int) (f x p : Int) : Prop := (0 ≤ f ∧ f ≤ mem 35 6 - 1) ∧ (1 ≤ x ∧ x ≤ 9999) ∧ 0 ≤ p ∧ p ≤ 6
abbrev FNS (mem : Int → Int → Int) : Prop := 0 ≤ mem 35 6 ∧ mem 35 6 ≤ 10 ∧ ∀ f : Int, 0 ≤ f → f ≤ mem 35 6 - 1 → FN mem f
def exactA (mem : Int → Int → Int) (f x p : Int) : Int := if fnA mem f x p then exactV (mem 36 f) (mem 37 f) (mem 38 f) x p else -1
def wholeB (mem : Int → Int → Int) (f x p : Int) : Prop := if mem 36 f = 0 then isq (underV (mem 37 f) (mem 38 f) x p) * isq (underV (mem 37 f) (mem 38 f) x p) = underV (mem 37 f) (mem 38 f) x p else exactV (mem 36 f) (mem 37 f) (mem 38 f) x p * belowV (mem 36 f) (mem 38 f) x = aboveV (mem 36 f) (mem 37 f) (mem 38 f) x p
def nearestA (mem : Int → Int → Int) (f x p : Int) : Int := if fnA mem f x p then nearV (mem 36 f) (mem 37 f) (mem 38 f) x p 0 else -1
abbrev funC (mem : Int → Int → Int) (s a b : Int) : Prop := (0 ≤ s ∧ s ≤ 2) ∧ (1 ≤ a ∧ a ≤ 99) ∧ (0 ≤ b ∧ b ≤ 99) ∧ mem 35 6 ≠ 10
def funM (mem : Int → Int → Int) (s a b : Int) : Int → Int → Int := set2 (set2 (set2 (set2 mem 36 (mem 35 6) s) 37 (mem 35 6) a) 38 (mem 35 6) b) 35 6 (mem 35 6 + 1)
/-- the tape: the bytes of five numbers -/
def byteI (w i : Int) : Int := if i = 0 then w / 16777216 % 256 else if i = 1 then w / 65536 % 256 else if i = 2 then w / 256 % 256 else w % 256
def byteK (a b c d e k : Int) : Int := if k < 4 then byteI a (k % 4) else if k < 8 then byteI b (k % 4) else if k < 12 then byteI c (k % 4) else if k < 16 then byteI d (k % 4) else byteI e (k % 4)
def nzc (B : Int → Int) : Nat → Int
  | 0 => 0
  | k + 1 => nzc B k + (if B k = 0 then 0 else 1)
def feedM (B : Int → Int) (mem : Int → Int → Int) : Nat → Int → Int → Int
  | 0 => mem
  | k + 1 => if B k = 0 then feedM B mem k else set2 (set2 (feedM B mem k) 39 (feedM B mem k 35 11) (B k)) 35 11 (feedM B mem k 35 11 + 1)
theorem nzc_bd (B : Int → Int) : ∀ k : Nat, 0 ≤ nzc B k ∧ nzc B k ≤ k := by
  intro k
  induction k with
  | zero => simp [nzc]
  | succ k ih => unfold nzc; split <;> omega
theorem nzc_mono (B : Int → Int) (n : Nat) : ∀ k : Nat, k ≤ n → nzc B k ≤ nzc B n := by
  induction n with
  | zero => intro k hk; rw [Nat.le_zero.mp hk]; exact Int.le_refl _
  | succ n ih =>
    intro k hk
    rcases Nat.lt_or_ge k (n + 1) with h | h
    · have := ih k (by omega)
      rw [nzc]
      split <;> omega
    · rw [show k = n + 1 by omega]
      exact Int.le_refl _
theorem feedM_size (B : Int → Int) (mem : Int → Int → Int) : ∀ k : Nat, feedM B mem k 35 11 = mem 35 11 + nzc B k := by
  intro k
  induction k with
  | zero => simp [feedM, nzc]
  | succ k ih =>
    unfold feedM nzc
    by_cases h : B k = 0
    · rw [if_pos h, if_pos h, ih]; omega
    · rw [if_neg h, if_neg h, s2_s, ih]; omega
theorem feedM_SR {mem : Int → Int → Int} (h : SR mem) (B : Int → Int) : ∀ k : Nat, SR (feedM B mem k) := by
  intro k
  induction k with
  | zero => exact h
  | succ k ih =>
    unfold feedM
    by_cases hb : B k = 0
    · rw [if_pos hb]; exact ih
    · rw [if_neg hb]; exact (ih.s (Or.inl (by decide))).s (Or.inr (by decide))
theorem byteI_bd (w i : Int) : 0 ≤ byteI w i ∧ byteI w i ≤ 255 := by
  unfold byteI
  split
  · omega
  · split
    · omega
    · split <;> omega
theorem byteK_bd (a b c d e k : Int) : 0 ≤ byteK a b c d e k ∧ byteK a b c d e k ≤ 255 := by
  unfold byteK
  split
  · exact byteI_bd _ _
  · split
    · exact byteI_bd _ _
    · split
      · exact byteI_bd _ _
      · split <;> exact byteI_bd _ _
theorem I_bv (a : Int) : (((Int32.ofInt a).toBitVec.toNat : Nat) : Int) = a % 4294967296 := by
  show (((BitVec.ofInt 32 a).toNat : Nat) : Int) = _
  rw [BitVec.toNat_ofInt]
  omega
theorem fand_255 (a : Int) : fand a 255 = a % 256 := by
  unfold fand
  rw [pk_and (Int32.ofInt a) (m := Int32.ofInt 255) 8 (by decide)]
  have h := I_bv a
  have h2 : (Int32.ofInt a).toBitVec.toNat % 2 ^ 8 < 2 ^ 31 := by have := Nat.mod_lt (Int32.ofInt a).toBitVec.toNat (show 0 < 2 ^ 8 by decide); omega
  rw [nI_toInt h2]
  omega
theorem fand_1 (a : Int) : fand a 1 = a % 2 := by
  unfold fand
  rw [pk_and (Int32.ofInt a) (m := Int32.ofInt 1) 1 (by decide)]
  have h := I_bv a
  have h2 : (Int32.ofInt a).toBitVec.toNat % 2 ^ 1 < 2 ^ 31 := by have := Nat.mod_lt (Int32.ofInt a).toBitVec.toNat (show 0 < 2 ^ 1 by decide); omega
  rw [nI_toInt h2]
  omega
theorem fishr_lit {a : Int} (ha : InI a) {s : Int} (k : Nat) (hs : ((Int32.ofInt s &&& 31).toBitVec.smod 32).toNat = k) : fishr a s = a / 2 ^ k := by
  unfold fishr
  rw [pk_shr _ _ k hs, I_toInt ha, Int.shiftRight_eq_div_pow]
  rfl
theorem byte_row {a : Int} (ha : InI a) {i : Int} (hi : 0 ≤ i ∧ i ≤ 3) : fand (fishr a (24 - 8 * i)) 255 = byteI a i := by
  rw [fand_255]
  rcases (show i = 0 ∨ i = 1 ∨ i = 2 ∨ i = 3 by omega) with rfl | rfl | rfl | rfl
  · rw [fishr_lit ha 24 (by decide)]; rfl
  · rw [fishr_lit ha 16 (by decide)]; rfl
  · rw [fishr_lit ha 8 (by decide)]; rfl
  · rw [fishr_lit ha 0 (by decide)]; simp [byteI]
theorem byteK_0 {a b c d e k : Int} (h : k < 4) : byteK a b c d e k = byteI a (k % 4) := if_pos h
theorem byteK_1 {a b c d e k : Int} (h1 : ¬ k < 4) (h : k < 8) : byteK a b c d e k = byteI b (k % 4) := by unfold byteK; rw [if_neg h1, if_pos h]
theorem byteK_2 {a b c d e k : Int} (h1 : ¬ k < 4) (h2 : ¬ k < 8) (h : k < 12) : byteK a b c d e k = byteI c (k % 4) := by unfold byteK; rw [if_neg h1, if_neg h2, if_pos h]
theorem byteK_3 {a b c d e k : Int} (h1 : ¬ k < 4) (h2 : ¬ k < 8) (h3 : ¬ k < 12) (h : k < 16) : byteK a b c d e k = byteI d (k % 4) := by unfold byteK; rw [if_neg h1, if_neg h2, if_neg h3, if_pos h]
theorem byteK_4 {a b c d e k : Int} (h1 : ¬ k < 4) (h2 : ¬ k < 8) (h3 : ¬ k < 12) (h : ¬ k < 16) : byteK a b c d e k = byteI e (k % 4) := by unfold byteK; rw [if_neg h1, if_neg h2, if_neg h3, if_neg h]
theorem exact_mul_bd (s a b x p : Int) (hs : s ≠ 0) (hab : AB a b) (hx : XP x p) : 0 ≤ exactV s a b x p * belowV s b x ∧ exactV s a b x p * belowV s b x ≤ aboveV s a b x p := by
  have h1 := @above_bd s a b x p hab hx
  have h2 := @below_bd s b x (by omega) (by omega)
  unfold exactV
  rw [if_neg hs]
  exact ⟨Int.mul_nonneg (Int.ediv_nonneg h1.1 (by omega)) (by omega), (ediv_mul_bd _ _ h2.1).1⟩
end HOUSE
