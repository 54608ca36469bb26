section PAGES
/-! pages: differences, rows, numbers -/
def bdiff (nr : Int → Int) : Nat → Int → Int
  | 0, n => nr n
  | j + 1, n => bdiff nr j n - bdiff nr j (n - 1)
def stepR (o : Nat) (prev add : Nat → Int) : Nat → Int
  | 0 => prev o
  | d + 1 => prev (o - (d + 1)) + stepR o prev add d + add (o - (d + 1))
/-- the columns of line n: j of them -/
def rowN (nr ad : Int → Int) (o m : Nat) : Nat → Nat → Int
  | 0 => fun j => bdiff nr j 0
  | n + 1 => if (n + 1) % m ≤ o then fun j => bdiff nr j ((n + 1 : Nat) : Int) else fun j => stepR o (rowN nr ad o m n) (fun i => ad (5 * ((n + 1 : Nat) : Int) + i)) (o - j)
def numN (nr ad : Int → Int) (o m : Nat) (n : Nat) : Int := if n % m ≤ o then nr n else rowN nr ad o m n 0 + ad (5 * (n : Int) + 4)
def rowF (nr ad : Int → Int) (o m n j : Int) : Int := rowN nr ad o.toNat m.toNat n.toNat j.toNat
def numF (nr ad : Int → Int) (o m n : Int) : Int := numN nr ad o.toNat m.toNat n.toNat
def nearL (mem : Int → Int → Int) (f first st p : Int) : Int → Int := fun n => nearV (mem 36 f) (mem 37 f) (mem 38 f) (first + n * st) p 0
theorem toNat_mod {n m : Int} (hn : 0 ≤ n) (hm : 0 < m) : ((n.toNat % m.toNat : Nat) : Int) = n % m := by
  rw [Int.natCast_emod, Int.toNat_of_nonneg hn, Int.toNat_of_nonneg (by omega)]
theorem rowF_piv {nr ad : Int → Int} {o m n j : Int} (hn : 0 ≤ n) (hm : 0 < m) (ho : 0 ≤ o) (h : n % m ≤ o) : rowF nr ad o m n j = bdiff nr j.toNat n := by
  unfold rowF
  have h1 := toNat_mod hn hm
  cases hc : n.toNat with
  | zero =>
    have : n = 0 := by omega
    subst this
    rfl
  | succ k =>
    rw [hc] at h1
    unfold rowN
    rw [if_pos (by omega)]
    show bdiff nr j.toNat ((k + 1 : Nat) : Int) = _
    rw [show ((k + 1 : Nat) : Int) = n by omega]
theorem numF_piv {nr ad : Int → Int} {o m n : Int} (hn : 0 ≤ n) (hm : 0 < m) (ho : 0 ≤ o) (h : n % m ≤ o) : numF nr ad o m n = nr n := by
  unfold numF numN
  have h1 := toNat_mod hn hm
  rw [if_pos (by omega), Int.toNat_of_nonneg hn]
theorem numF_made {nr ad : Int → Int} {o m n : Int} (hn : 0 ≤ n) (hm : 0 < m) (ho : 0 ≤ o) (h : ¬ n % m ≤ o) : numF nr ad o m n = rowF nr ad o m n 0 + ad (5 * n + 4) := by
  unfold numF numN rowF
  have h1 := toNat_mod hn hm
  rw [if_neg (by omega), Int.toNat_of_nonneg hn]
  rfl
theorem rowF_top {nr ad : Int → Int} {o m n : Int} (hn : 0 ≤ n) (hm : 0 < m) (ho : 0 ≤ o) (h : ¬ n % m ≤ o) : rowF nr ad o m n o = rowF nr ad o m (n - 1) o := by
  unfold rowF
  have h1 := toNat_mod hn hm
  cases hc : n.toNat with
  | zero =>
    rw [hc] at h1
    simp at h1
    omega
  | succ k =>
    rw [hc] at h1
    rw [show (n - 1).toNat = k by omega]
    rw [rowN, if_neg (by omega)]
    show stepR _ _ _ (o.toNat - o.toNat) = _
    rw [Nat.sub_self]
    rfl
theorem rowF_step {nr ad : Int → Int} {o m n j : Int} (hn : 0 ≤ n) (hm : 0 < m) (hj : 0 ≤ j) (hjo : j < o) (h : ¬ n % m ≤ o) : rowF nr ad o m n j = rowF nr ad o m (n - 1) j + rowF nr ad o m n (j + 1) + ad (5 * n + j) := by
  unfold rowF
  have h1 := toNat_mod hn hm
  cases hc : n.toNat with
  | zero =>
    rw [hc] at h1
    simp at h1
    omega
  | succ k =>
    rw [hc] at h1
    rw [show (n - 1).toNat = k by omega]
    rw [rowN, if_neg (by omega)]
    show stepR _ _ _ (o.toNat - j.toNat) = _ + stepR _ _ _ (o.toNat - (j + 1).toNat) + _
    obtain ⟨d, hd⟩ : ∃ d, o.toNat - j.toNat = d + 1 := ⟨o.toNat - j.toNat - 1, by omega⟩
    rw [hd, stepR, show o.toNat - (d + 1) = j.toNat by omega, show o.toNat - (j + 1).toNat = d by omega, show ((k + 1 : Nat) : Int) = n by omega, Int.toNat_of_nonneg hj]
/-- the rows of a page are made for the lines ahead of n: mem0 before, mm now -/
def MK (mem0 mm : Int → Int → Int) (nr : Int → Int) (o m n : Int) : Prop :=
  SR mm ∧ (∀ a j : Int, a ≠ 60 → a ≠ 61 → a ≠ 62 → mm a j = mem0 a j) ∧ (∀ i : Int, 0 ≤ i → i < n → mm 61 i = numF nr (mem0 59) o m i) ∧ (∀ i j : Int, 0 ≤ i → i < n → o ≤ i % m → 0 ≤ j → j ≤ o → mm 60 (5 * i + j) = rowF nr (mem0 59) o m i j)
theorem MK.start {mem0 : Int → Int → Int} {nr : Int → Int} {o m : Int} (h : SR mem0) : MK mem0 mem0 nr o m 0 := ⟨h, fun _ _ _ _ _ => rfl, fun i h1 h2 => by omega, fun i j h1 h2 => by omega⟩
theorem MK.put62 {mem0 mm : Int → Int → Int} {nr : Int → Int} {o m n : Int} (h : MK mem0 mm nr o m n) (k v : Int) : MK mem0 (set2 mm 62 k v) nr o m n :=
  ⟨h.1.s (Or.inl (by decide)), fun a j h1 h2 h3 => by rw [s2_a h3]; exact h.2.1 a j h1 h2 h3, fun i h1 h2 => by rw [s2_a (by decide)]; exact h.2.2.1 i h1 h2, fun i j h1 h2 h3 h4 h5 => by rw [s2_a (by decide)]; exact h.2.2.2 i j h1 h2 h3 h4 h5⟩
theorem MK.put60 {mem0 mm : Int → Int → Int} {nr : Int → Int} {o m n : Int} (h : MK mem0 mm nr o m n) {k : Int} (v : Int) (hk : 5 * n ≤ k) (ho : o ≤ 4) : MK mem0 (set2 mm 60 k v) nr o m n :=
  ⟨h.1.s (Or.inl (by decide)), fun a j h1 h2 h3 => by rw [s2_a h1]; exact h.2.1 a j h1 h2 h3, fun i h1 h2 => by rw [s2_a (by decide)]; exact h.2.2.1 i h1 h2, fun i j h1 h2 h3 h4 h5 => by rw [s2_k (by omega)]; exact h.2.2.2 i j h1 h2 h3 h4 h5⟩
theorem MK.put61 {mem0 mm : Int → Int → Int} {nr : Int → Int} {o m n : Int} (h : MK mem0 mm nr o m n) {k : Int} (v : Int) (hk : n ≤ k) : MK mem0 (set2 mm 61 k v) nr o m n :=
  ⟨h.1.s (Or.inl (by decide)), fun a j h1 h2 h3 => by rw [s2_a h2]; exact h.2.1 a j h1 h2 h3, fun i h1 h2 => by rw [s2_k (by omega)]; exact h.2.2.1 i h1 h2, fun i j h1 h2 h3 h4 h5 => by rw [s2_a (by decide)]; exact h.2.2.2 i j h1 h2 h3 h4 h5⟩
theorem MK.next {mem0 mm : Int → Int → Int} {nr : Int → Int} {o m n : Int} (h : MK mem0 mm nr o m n) (h1 : mm 61 n = numF nr (mem0 59) o m n) (h2 : o ≤ n % m → ∀ j : Int, 0 ≤ j → j ≤ o → mm 60 (5 * n + j) = rowF nr (mem0 59) o m n j) : MK mem0 mm nr o m (n + 1) :=
  ⟨h.1, h.2.1, fun i h3 h4 => by
    by_cases e : i = n
    · rw [e]; exact h1
    · exact h.2.2.1 i h3 (by omega), fun i j h3 h4 h5 h6 h7 => by
    by_cases e : i = n
    · subst e; exact h2 h5 j h6 h7
    · exact h.2.2.2 i j h3 (by omega) h5 h6 h7⟩
abbrev MKA (mem : Int → Int → Int) (f first st many o p m : Int) : Prop := FN mem f ∧ 1 ≤ first ∧ 0 ≤ st ∧ st ≤ 50 ∧ 0 ≤ many ∧ many ≤ 40 ∧ 1 ≤ o ∧ o ≤ 4 ∧ 0 ≤ p ∧ p ≤ 6 ∧ o + 2 ≤ m ∧ m ≤ 40 ∧ first + (many - 1) * st ≤ 9999
theorem line_x {first st many n : Int} (h1 : 1 ≤ first) (h2 : 0 ≤ st) (h3 : first + (many - 1) * st ≤ 9999) (hn : 0 ≤ n) (hm : n < many) : 1 ≤ first + n * st ∧ first + n * st ≤ 9999 := by
  have a := Int.mul_nonneg hn h2
  have b := Int.mul_le_mul_of_nonneg_right (show n ≤ many - 1 by omega) h2
  omega
theorem upto_put {m : Int → Int → Int} {a k v : Int} {f : Int → Int} (h : ∀ i : Int, 0 ≤ i → i < k → m a i = f i) (hv : v = f k) : ∀ i : Int, 0 ≤ i → i < k + 1 → set2 m a k v a i = f i := by
  intro i h1 h2
  by_cases e : i = k
  · rw [e, s2_s, hv]
  · rw [s2_k e]; exact h i h1 (by omega)
theorem upto_off {m : Int → Int → Int} {a b k v : Int} {f : Int → Int} (h : ∀ i : Int, 0 ≤ i → i < k → m a (b + i) = f i) (hv : v = f k) : ∀ i : Int, 0 ≤ i → i < k + 1 → set2 m a (b + k) v a (b + i) = f i := by
  intro i h1 h2
  by_cases e : i = k
  · rw [e, s2_s, hv]
  · rw [s2_k (by omega)]; exact h i h1 (by omega)
theorem down_off {m : Int → Int → Int} {a b k v o : Int} {f : Int → Int} (h : ∀ i : Int, k < i → i ≤ o → m a (b + i) = f i) (hv : v = f k) : ∀ i : Int, k + (-1) < i → i ≤ o → set2 m a (b + k) v a (b + i) = f i := by
  intro i h1 h2
  by_cases e : i = k
  · rw [e, s2_s, hv]
  · rw [s2_k (by omega)]; exact h i (by omega) h2
theorem mod_in {n m o k : Int} (hm : 0 < m) (h : n % m = o) (h0 : 0 ≤ k) (h1 : k ≤ o) : (n - o + k) % m = k := by
  have h2 := Int.mul_ediv_add_emod n m
  have h3 := Int.emod_lt_of_pos n hm
  rw [show n - o + k = k + m * (n / m) by omega, Int.add_mul_emod_self_left, Int.emod_eq_of_lt h0 (by omega)]
theorem bdiff_s {nr : Int → Int} {j x : Int} (h : 1 ≤ j) : bdiff nr j.toNat x = bdiff nr (j - 1).toNat x - bdiff nr (j - 1).toNat (x - 1) := by
  rw [show j.toNat = (j - 1).toNat + 1 by omega, bdiff]
theorem MK.at61 {mem0 mm : Int → Int → Int} {nr : Int → Int} {o m n : Int} (h : MK mem0 mm nr o m n) (hm : 0 < m) (ho : 0 ≤ o) (hn : 0 ≤ n) (hp : n % m = o) (h61 : mm 61 n = nr n) {k : Int} (h0 : 0 ≤ k) (h1 : k ≤ o) (hk : 0 ≤ n - o + k) : mm 61 (n - o + k) = nr (n - o + k) := by
  by_cases e : k = o
  · rw [show n - o + k = n by omega]; exact h61
  · rw [h.2.2.1 _ hk (by omega), numF_piv hk hm ho (by rw [mod_in hm hp h0 h1]; exact h1)]
theorem mod_le {n m : Int} (hn : 0 ≤ n) (hm : 0 < m) : n % m ≤ n := by
  have := Int.mul_ediv_add_emod n m
  have := Int.mul_nonneg (show 0 ≤ m by omega) (Int.ediv_nonneg hn (show 0 ≤ m by omega))
  omega
end PAGES
