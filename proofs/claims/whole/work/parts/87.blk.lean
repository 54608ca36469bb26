section BLKS
/-! a block's figures hang on its own lines alone, and not on where it lies -/
theorem bdiff_sh {f g : Int → Int} {k : Int} : ∀ (j : Nat) (n : Int), (∀ i : Int, n - j ≤ i → i ≤ n → f i = g (i + k)) → bdiff f j n = bdiff g j (n + k) := by
  intro j
  induction j with
  | zero => intro n h; exact h n (by omega) (by omega)
  | succ j ih =>
    intro n h
    unfold bdiff
    rw [ih n (fun i q1 q2 => h i (by omega) q2), ih (n - 1) (fun i q1 q2 => h i (by omega) (by omega)), show n - 1 + k = n + k - 1 by omega]
theorem rowF_blk {nr nr' ad ad' : Int → Int} {o m m' s s' : Int} (ho : 0 ≤ o) (hm : 0 < m) (hm' : 0 < m') (hs : s % m = 0) (hs' : s' % m' = 0) (h0 : 0 ≤ s) (h0' : 0 ≤ s') : ∀ (t : Nat), o + t < m → o + t < m' → (∀ i : Int, s ≤ i → i ≤ s + o + t → nr i = nr' (i + (s' - s))) → (∀ i c : Int, s + o < i → i ≤ s + o + t → 0 ≤ c → c < o → ad (5 * i + c) = ad' (5 * (i + (s' - s)) + c)) → ∀ d : Nat, (d : Int) ≤ o → rowF nr ad o m (s + o + t) (o - d) = rowF nr' ad' o m' (s + o + t + (s' - s)) (o - d) := by
  intro t
  induction t with
  | zero =>
    intro q1 q2 hn _ d hd
    have e1 : (s + o + ((0 : Nat) : Int)) % m = s + o + ((0 : Nat) : Int) - s := blk_mod hm hs (by omega) (by omega)
    have e2 : (s + o + ((0 : Nat) : Int) + (s' - s)) % m' = s + o + ((0 : Nat) : Int) + (s' - s) - s' := blk_mod hm' hs' (by omega) (by omega)
    rw [rowF_piv (by omega) hm ho (by omega), rowF_piv (by omega) hm' ho (by omega)]
    exact bdiff_sh _ _ (fun i w1 w2 => hn i (by omega) w2)
  | succ t ih =>
    intro q1 q2 hn ha
    have e1 : (s + o + ((t + 1 : Nat) : Int)) % m = s + o + ((t + 1 : Nat) : Int) - s := blk_mod hm hs (by omega) (by omega)
    have e2 : (s + o + ((t + 1 : Nat) : Int) + (s' - s)) % m' = s + o + ((t + 1 : Nat) : Int) + (s' - s) - s' := blk_mod hm' hs' (by omega) (by omega)
    have ih' := ih (by omega) (by omega) (fun i w1 w2 => hn i w1 (by omega)) (fun i c w1 w2 w3 w4 => ha i c w1 (by omega) w3 w4)
    have ep : s + o + ((t + 1 : Nat) : Int) - 1 = s + o + t := by omega
    have ep' : s + o + ((t + 1 : Nat) : Int) + (s' - s) - 1 = s + o + t + (s' - s) := by omega
    intro d
    induction d with
    | zero =>
      intro hd
      rw [show o - ((0 : Nat) : Int) = o by omega, rowF_top (by omega) hm ho (by omega), rowF_top (by omega) hm' ho (by omega), ep, ep']
      have := ih' 0 (by omega)
      rw [show o - ((0 : Nat) : Int) = o by omega] at this
      exact this
    | succ d ihd =>
      intro hd
      rw [rowF_step (by omega) hm (by omega) (by omega) (by omega), rowF_step (by omega) hm' (by omega) (by omega) (by omega), ep, ep', ih' (d + 1) hd, show o - ((d + 1 : Nat) : Int) + 1 = o - d by omega, ihd (by omega), ha _ _ (by omega) (by omega) (by omega) (by omega)]
/-- the same, said of a line -/
theorem rowF_eqs {nr nr' ad ad' : Int → Int} {o m m' s s' n j : Int} (ho : 0 ≤ o) (hm : 0 < m) (hm' : 0 < m') (hs : s % m = 0) (hs' : s' % m' = 0) (h0 : 0 ≤ s) (h0' : 0 ≤ s') (hn : s + o ≤ n ∧ n < s + m ∧ n < s + m') (hnr : ∀ i : Int, s ≤ i → i ≤ n → nr i = nr' (i + (s' - s))) (had : ∀ i c : Int, s + o < i → i ≤ n → 0 ≤ c → c < o → ad (5 * i + c) = ad' (5 * (i + (s' - s)) + c)) (hj : 0 ≤ j ∧ j ≤ o) : rowF nr ad o m n j = rowF nr' ad' o m' (n + (s' - s)) j := by
  have e : s + o + (((n - s - o).toNat : Nat) : Int) = n := by omega
  have e2 : o - (((o - j).toNat : Nat) : Int) = j := by omega
  have h := rowF_blk (nr := nr) (nr' := nr') (ad := ad) (ad' := ad') ho hm hm' hs hs' h0 h0' (n - s - o).toNat (by omega) (by omega) (fun i w1 w2 => hnr i w1 (by omega)) (fun i c w1 w2 w3 w4 => had i c w1 (by omega) w3 w4) (o - j).toNat (by omega)
  rw [e, e2] at h
  exact h
theorem numF_eqs {nr nr' ad ad' : Int → Int} {o m m' s s' n : Int} (ho : 0 ≤ o) (hm : 0 < m) (hm' : 0 < m') (hs : s % m = 0) (hs' : s' % m' = 0) (h0 : 0 ≤ s) (h0' : 0 ≤ s') (hn : s ≤ n ∧ n < s + m ∧ n < s + m') (hnr : ∀ i : Int, s ≤ i → i ≤ n → nr i = nr' (i + (s' - s))) (had : ∀ i c : Int, s + o < i → i ≤ n → 0 ≤ c → c ≤ 4 → c < o ∨ c = 4 → ad (5 * i + c) = ad' (5 * (i + (s' - s)) + c)) (ho4 : o ≤ 4) : numF nr ad o m n = numF nr' ad' o m' (n + (s' - s)) := by
  have e1 : n % m = n - s := blk_mod hm hs (by omega) (by omega)
  have e2 : (n + (s' - s)) % m' = n + (s' - s) - s' := blk_mod hm' hs' (by omega) (by omega)
  by_cases h : n - s ≤ o
  · rw [numF_piv (by omega) hm ho (by omega), numF_piv (by omega) hm' ho (by omega)]
    exact hnr n (by omega) (by omega)
  · rw [numF_made (by omega) hm ho (by omega), numF_made (by omega) hm' ho (by omega), rowF_eqs ho hm hm' hs hs' h0 h0' ⟨by omega, by omega, by omega⟩ hnr (fun i c w1 w2 w3 w4 => had i c w1 w2 w3 (by omega) (Or.inl w4)) ⟨by omega, by omega⟩, had n 4 (by omega) (by omega) (by omega) (by omega) (Or.inr rfl)]
/-- a line's block begins -/
theorem blk_st {n m : Int} (hm : 0 < m) (hn : 0 ≤ n) : (n - n % m) % m = 0 ∧ 0 ≤ n - n % m ∧ n - n % m ≤ n ∧ n < n - n % m + m := by
  have h1 := Int.emod_nonneg n (show m ≠ 0 by omega)
  have h2 := Int.emod_lt_of_pos n hm
  have h3 := mod_le hn hm
  refine ⟨?_, by omega, by omega, by omega⟩
  rw [Int.sub_emod, Int.emod_emod_of_dvd n (Int.dvd_refl m), Int.sub_self, Int.zero_emod]
/-- other numbers of the block, the same figures -/
theorem numF_cg {nr nr' ad ad' : Int → Int} {o m n : Int} (ho : 0 ≤ o ∧ o ≤ 4) (hm : 0 < m) (hn : 0 ≤ n) (hnr : ∀ i : Int, n - n % m ≤ i → i ≤ n → nr i = nr' i) (had : ∀ i c : Int, n - n % m + o < i → i ≤ n → 0 ≤ c → c ≤ 4 → c < o ∨ c = 4 → ad (5 * i + c) = ad' (5 * i + c)) : numF nr ad o m n = numF nr' ad' o m n := by
  obtain ⟨b1, b2, b3, b4⟩ := blk_st (m := m) hm hn
  have h := numF_eqs (nr := nr) (nr' := nr') (ad := ad) (ad' := ad') ho.1 hm hm b1 b1 b2 b2 ⟨b3, b4, b4⟩ (fun i w1 w2 => by rw [Int.sub_self, Int.add_zero]; exact hnr i w1 w2) (fun i c w1 w2 w3 w4 w5 => by rw [Int.sub_self, Int.add_zero]; exact had i c w1 w2 w3 w4 w5) ho.2
  rw [Int.sub_self, Int.add_zero] at h
  exact h
theorem rowF_cg {nr nr' ad ad' : Int → Int} {o m n j : Int} (ho : 0 ≤ o ∧ o ≤ 4) (hm : 0 < m) (hn : 0 ≤ n) (hno : o ≤ n % m) (hj : 0 ≤ j ∧ j ≤ o) (hnr : ∀ i : Int, n - n % m ≤ i → i ≤ n → nr i = nr' i) (had : ∀ i c : Int, n - n % m + o < i → i ≤ n → 0 ≤ c → c < o → ad (5 * i + c) = ad' (5 * i + c)) : rowF nr ad o m n j = rowF nr' ad' o m n j := by
  obtain ⟨b1, b2, b3, b4⟩ := blk_st (m := m) hm hn
  have h := rowF_eqs (nr := nr) (nr' := nr') (ad := ad) (ad' := ad') ho.1 hm hm b1 b1 b2 b2 ⟨by omega, b4, b4⟩ (fun i w1 w2 => by rw [Int.sub_self, Int.add_zero]; exact hnr i w1 w2) (fun i c w1 w2 w3 w4 => by rw [Int.sub_self, Int.add_zero]; exact had i c w1 w2 w3 w4) hj
  rw [Int.sub_self, Int.add_zero] at h
  exact h
end BLKS
