section DIGS
/-! one figure of a number put anew -/
theorem tp (k : Nat) : 0 < (10 : Int) ^ k := by have := ten_pos (k := k); omega
theorem rep_hi {a f : Int} {j e : Nat} (hf : 0 ≤ f ∧ f ≤ 9) : (a + (f - a / 10 ^ j % 10) * 10 ^ j) / 10 ^ (j + 1 + e) = a / 10 ^ (j + 1 + e) := by
  rw [Int.pow_add, Int.pow_succ, ← Int.ediv_ediv_of_nonneg (by have := tp j; omega), ← Int.ediv_ediv_of_nonneg (by have := tp j; omega), ← Int.ediv_ediv_of_nonneg (by have := tp j; omega), ← Int.ediv_ediv_of_nonneg (by have := tp j; omega), Int.add_mul_ediv_right _ _ (by have := tp j; omega)]
  congr 1
  omega
theorem rep_at {a f : Int} {j : Nat} (hf : 0 ≤ f ∧ f ≤ 9) : (a + (f - a / 10 ^ j % 10) * 10 ^ j) / 10 ^ j % 10 = f := by
  rw [Int.add_mul_ediv_right _ _ (by have := tp j; omega)]
  omega
theorem rep_lo {a f : Int} {i e : Nat} : (a + f * 10 ^ (i + 1 + e)) / 10 ^ i % 10 = a / 10 ^ i % 10 := by
  rw [show f * (10 : Int) ^ (i + 1 + e) = (f * (10 * 10 ^ e)) * 10 ^ i by rw [Int.pow_add, Int.pow_succ]; simp only [Int.mul_assoc, Int.mul_comm, Int.mul_left_comm], Int.add_mul_ediv_right _ _ (by have := tp i; omega), show f * ((10 : Int) * 10 ^ e) = 10 * (f * 10 ^ e) from Int.mul_left_comm _ _ _]
  omega
theorem rep_dig {a f : Int} {j : Nat} (hf : 0 ≤ f ∧ f ≤ 9) (i : Nat) : (a + (f - a / 10 ^ j % 10) * 10 ^ j) / 10 ^ i % 10 = if i = j then f else a / 10 ^ i % 10 := by
  rcases Nat.lt_trichotomy i j with h | h | h
  · obtain ⟨e, rfl⟩ : ∃ e, j = i + 1 + e := ⟨j - i - 1, by omega⟩
    rw [if_neg (by omega)]
    exact rep_lo
  · subst h
    rw [if_pos rfl]
    exact rep_at hf
  · obtain ⟨e, rfl⟩ : ∃ e, i = j + 1 + e := ⟨i - j - 1, by omega⟩
    rw [if_neg (by omega), rep_hi hf]
theorem dig_ext {x y : Int} : ∀ k : Nat, (∀ i : Nat, i < k → x / 10 ^ i % 10 = y / 10 ^ i % 10) → x / 10 ^ k = y / 10 ^ k → x = y := by
  intro k
  induction k with
  | zero => intro _ h; simpa using h
  | succ k ih =>
    intro h1 h2
    refine ih (fun i q => h1 i (by omega)) ?_
    rw [Int.pow_succ, ← Int.ediv_ediv_of_nonneg (by have := tp k; omega), ← Int.ediv_ediv_of_nonneg (by have := tp k; omega)] at h2
    have := h1 k (by omega)
    omega
theorem ppN_dig {w a : Int} (hw : ∀ j : Int, nibG w j ≤ 10) : ∀ k : Nat, k ≤ 13 → (∀ i : Nat, ppN w a k / 10 ^ i % 10 = if i < k ∧ nibG w i ≠ 0 then nibG w i - 1 else a / 10 ^ i % 10) ∧ ppN w a k / 10 ^ 13 = a / 10 ^ 13 := by
  intro k
  induction k with
  | zero => intro _; exact ⟨fun i => by rw [if_neg (by omega)]; rfl, rfl⟩
  | succ k ih =>
    intro hk
    obtain ⟨h1, h2⟩ := ih (by omega)
    have hn := nibG_bd (w := w) (j := (k : Int))
    have hn10 := hw (k : Int)
    unfold ppN
    by_cases c : nibG w k = 0
    · rw [if_pos c]
      refine ⟨fun i => ?_, h2⟩
      rw [h1 i]
      by_cases e : i = k
      · subst e; rw [if_neg (by omega), if_neg (by omega)]
      · by_cases q : i < k ∧ nibG w i ≠ 0
        · rw [if_pos q, if_pos ⟨by omega, q.2⟩]
        · rw [if_neg q, if_neg (by omega)]
    · rw [if_neg c]
      refine ⟨fun i => ?_, ?_⟩
      · rw [rep_dig (by omega)]
        by_cases e : i = k
        · subst e; rw [if_pos rfl, if_pos ⟨by omega, c⟩]
        · rw [if_neg e, h1 i]
          by_cases q : i < k ∧ nibG w i ≠ 0
          · rw [if_pos q, if_pos ⟨by omega, q.2⟩]
          · rw [if_neg q, if_neg (by omega)]
      · rw [← h2, show 13 = k + 1 + (12 - k) by omega]
        exact rep_hi (by omega)
theorem pvN_bd {mem : Int → Int → Int} {p n j : Int} (hR : PRS mem) : ∀ k : Nat, (k : Int) ≤ mem 35 72 → 0 ≤ pvN mem p n j k ∧ pvN mem p n j k ≤ 10 := by
  intro k
  induction k with
  | zero => intro _; exact ⟨Int.le_refl _, by show (0 : Int) ≤ 10; omega⟩
  | succ k ih =>
    intro h
    have g := hR.2.2 k (by omega) (by omega)
    have i2 := ih (by omega)
    unfold pvN
    split <;> omega
theorem prN_dig {mem : Int → Int → Int} {p n : Int} (hR : PRS mem) : ∀ k : Nat, (k : Int) ≤ mem 35 72 → (∀ i : Nat, i ≤ 12 → prN mem p n k / 10 ^ i % 10 = if pvN mem p n i k = 0 then absV (mem 83 (40 * p + n)) / 10 ^ i % 10 else pvN mem p n i k - 1) ∧ prN mem p n k / 10 ^ 13 = absV (mem 83 (40 * p + n)) / 10 ^ 13 := by
  intro k
  induction k with
  | zero => intro _; exact ⟨fun i _ => (if_pos (show pvN mem p n i 0 = 0 from rfl)).symm, rfl⟩
  | succ k ih =>
    intro hk
    obtain ⟨h1, h2⟩ := ih (by omega)
    have es : ∀ i : Int, pvN mem p n i (k + 1) = if mem 84 k = p ∧ mem 85 k = n ∧ mem 86 k = i then mem 87 k + 1 else pvN mem p n i k := fun _ => rfl
    have g := hR.2.2 k (by omega) (by omega)
    unfold prN
    by_cases c : mem 84 k = p ∧ mem 85 k = n
    · rw [if_pos c]
      refine ⟨fun i hi => ?_, ?_⟩
      · rw [rep_dig (by omega)]
        by_cases e : i = (mem 86 k).toNat
        · have ev : pvN mem p n i (k + 1) = mem 87 k + 1 := by rw [es, if_pos ⟨c.1, c.2, by omega⟩]
          rw [ev, if_pos e, if_neg (by omega)]; omega
        · have ev : pvN mem p n i (k + 1) = pvN mem p n i k := by rw [es, if_neg (fun w => e (by omega))]
          rw [ev, if_neg e, h1 i hi]
      · rw [← h2, show 13 = (mem 86 k).toNat + 1 + (12 - (mem 86 k).toNat) by omega]
        exact rep_hi (by omega)
    · rw [if_neg c]
      refine ⟨fun i hi => ?_, h2⟩
      have ev : pvN mem p n i (k + 1) = pvN mem p n i k := by rw [es, if_neg (fun w => c ⟨w.1, w.2.1⟩)]
      rw [ev, h1 i hi]
/-- a printed line: nibbles and list say the same -/
theorem ppN_prN {mem : Int → Int → Int} {p n w : Int} (hR : PRS mem) (hw : ∀ j : Int, nibG w j ≤ 10) (h : ∀ j : Int, 0 ≤ j → j ≤ 12 → nibG w j = pvN mem p n j (mem 35 72).toNat) : ppN w (absV (mem 83 (40 * p + n))) 13 = prN mem p n (mem 35 72).toNat := by
  obtain ⟨a1, a2⟩ := ppN_dig (w := w) (a := absV (mem 83 (40 * p + n))) hw 13 (by omega)
  obtain ⟨b1, b2⟩ := prN_dig (p := p) (n := n) hR (mem 35 72).toNat (by have := hR.1; omega)
  refine dig_ext 13 (fun i hi => ?_) (a2.trans b2.symm)
  rw [a1 i, b1 i (by omega), h i (by omega) (by omega)]
  by_cases c : pvN mem p n i (mem 35 72).toNat = 0
  · rw [if_pos c, if_neg (fun q => q.2 c)]
  · rw [if_neg c, if_pos ⟨hi, c⟩]
theorem nib_hi {w j : Int} (hw : 0 ≤ w ∧ w < 4503599627370496) (hj : 13 ≤ j) : nibG w j = 0 := by
  unfold nibG
  have h1 : (16 : Int) ^ 13 ≤ 16 ^ j.toNat := by
    obtain ⟨e, he⟩ : ∃ e, j.toNat = 13 + e := ⟨j.toNat - 13, by omega⟩
    rw [he, Int.pow_add]
    have : (1 : Int) ≤ 16 ^ e := by rw [pw16]; have := Nat.two_pow_pos (4 * e); omega
    have h2 : (16 : Int) ^ 13 * 1 ≤ 16 ^ 13 * 16 ^ e := Int.mul_le_mul_of_nonneg_left this (by decide)
    omega
  rw [Int.ediv_eq_zero_of_lt hw.1 (by have : (16 : Int) ^ 13 = 4503599627370496 := by decide
                                      omega)]
  rfl
section
variable {kd : Int → Nat} {ln : Int → Int} {mem : Int → Int → Int} {sz : Nat} {tg : Int → Int} {p v n : Int}
theorem PAGV.nib (hP : PAGV kd ln mem sz tg p v) (hR : PRS mem) : ∀ i j : Int, 0 ≤ i → i < 40 → nibG (mem (mem v 18) i) j ≤ 10 := fun i j h0 h1 => by
  obtain ⟨w1, w2⟩ := hP.2.1.2.2.2.2 i h0 h1
  rcases Int.lt_or_le j 0 with q | q
  · have e : nibG (mem (mem v 18) i) j = nibG (mem (mem v 18) i) 0 := by unfold nibG; rw [show j.toNat = (0 : Int).toNat by omega]
    rw [e, w2 0 (by decide) (by decide)]
    exact (pvN_bd hR _ (by have := hR.1; omega)).2
  · rcases Int.lt_or_le j 13 with q2 | q2
    · rw [w2 j q (by omega)]
      exact (pvN_bd hR _ (by have := hR.1; omega)).2
    · rw [nib_hi w1 q2]; omega
/-- what printedOf asks of a page that is set, and what it answers -/
theorem PAGV.plt (hP : PAGV kd ln mem sz tg p v) (hs : mem 82 p = 1) : (kd (mem v 17) = 21 ∧ ln (mem v 17) = 40 ∧ 3 ≤ mem v 17) ∧ 0 ≤ mem v 17 ∧ (∀ i : Int, 0 ≤ i → i < mem 47 p → mem (mem v 17) i = mem 83 (40 * p + i)) ∧ ∀ i : Int, 0 ≤ i → i < 40 → -9000000000000000000 ≤ mem (mem v 17) i ∧ mem (mem v 17) i ≤ 9000000000000000000 := by
  rcases hP.2.1.2.2.2.1 with ⟨w1, w2⟩ | ⟨⟨u1, u2, u3, u4, u5⟩, w2, w3, w4⟩
  · omega
  · exact ⟨⟨u1, u2, by omega⟩, by omega, w3, w4⟩
theorem PAGV.wa (hP : PAGV kd ln mem sz tg p v) : ∀ i : Int, 0 ≤ i → i < 40 → 0 ≤ mem (mem v 18) i ∧ mem (mem v 18) i < 4503599627370496 := fun i h0 h1 => (hP.2.1.2.2.2.2 i h0 h1).1
theorem PAGV.prt (hP : PAGV kd ln mem sz tg p v) (hR : PRS mem) (hs : mem 82 p = 1) (hn : 0 ≤ n ∧ n < mem 47 p) : (if 0 ≤ mem v 17 ∧ 0 ≤ n ∧ n ≤ mem v 2 - 1 then (if mem (mem v 17) n < 0 then -(ppN (mem (mem v 18) n) (absV (mem (mem v 17) n)) 13) else ppN (mem (mem v 18) n) (absV (mem (mem v 17) n)) 13) else -1) = prtV mem p n := by
  have hpg := hP.2.2
  obtain ⟨g0, g1, g2, -⟩ := hP.nm
  obtain ⟨h1, h2, h3, h4⟩ := hP.plt hs
  rw [if_pos ⟨h2, hn.1, by omega⟩, h3 n hn.1 hn.2, ppN_prN hR (fun j => hP.nib hR n j hn.1 (by omega)) (fun j q1 q2 => (hP.2.1.2.2.2.2 n hn.1 (by omega)).2 j q1 q2)]
  rfl
end
end DIGS
