section BOUNDS
/-! how great a page's numbers grow -/
def gS (f : Nat → Int) (c e : Int) : Nat → Int
  | 0 => c
  | t + 1 => gS f c e t + f (t + 1) + e
def gB (P : Nat → Int) (e : Int) (o : Nat) : Nat → Nat → Int
  | 0 => fun _ => P o
  | d + 1 => gS (gB P e o d) (P (o - (d + 1))) e
theorem gB_bd {X : Nat → Nat → Int} {P : Nat → Int} {e : Int} {o Tm : Nat} (h0 : ∀ d : Nat, d ≤ o → -P (o - d) ≤ X 0 d ∧ X 0 d ≤ P (o - d)) (hz : ∀ t : Nat, t < Tm → X (t + 1) 0 = X t 0) (hs : ∀ t d : Nat, t < Tm → d < o → ∃ E : Int, X (t + 1) (d + 1) = X t (d + 1) + X (t + 1) d + E ∧ -e ≤ E ∧ E ≤ e) : ∀ t : Nat, t ≤ Tm → ∀ d : Nat, d ≤ o → -gB P e o d t ≤ X t d ∧ X t d ≤ gB P e o d t := by
  intro t
  induction t with
  | zero =>
    intro _ d hd
    have := h0 d hd
    cases d with
    | zero => exact this
    | succ d => exact this
  | succ t ih =>
    intro ht d
    induction d with
    | zero =>
      intro hd
      rw [hz t (by omega)]
      exact ih (by omega) 0 hd
    | succ d ihd =>
      intro hd
      obtain ⟨E, h1, h2, h3⟩ := hs t d (by omega) (by omega)
      have a1 := ih (by omega) (d + 1) hd
      have a2 := ihd (by omega)
      have a3 : gB P e o (d + 1) (t + 1) = gB P e o (d + 1) t + gB P e o d (t + 1) + e := rfl
      rw [h1, a3]
      omega
/-- the columns of a block, step by step -/
theorem rowF_X {nr ad : Int → Int} {o m s : Int} (ho : 0 ≤ o) (hm : 0 < m) (hs : s % m = 0) (h0 : 0 ≤ s) {t d : Nat} (ht : o + t + 1 < m) : rowF nr ad o m (s + o + ((t + 1 : Nat) : Int)) (o - ((0 : Nat) : Int)) = rowF nr ad o m (s + o + t) (o - ((0 : Nat) : Int)) ∧ ((d : Int) < o → rowF nr ad o m (s + o + ((t + 1 : Nat) : Int)) (o - ((d + 1 : Nat) : Int)) = rowF nr ad o m (s + o + t) (o - ((d + 1 : Nat) : Int)) + rowF nr ad o m (s + o + ((t + 1 : Nat) : Int)) (o - d) + ad (5 * (s + o + ((t + 1 : Nat) : Int)) + (o - ((d + 1 : Nat) : Int)))) := by
  have e1 : (s + o + ((t + 1 : Nat) : Int)) % m = s + o + ((t + 1 : Nat) : Int) - s := blk_mod hm hs (by omega) (by omega)
  refine ⟨?_, fun hd => ?_⟩
  · rw [show o - ((0 : Nat) : Int) = o by omega, rowF_top (by omega) hm ho (by omega), show s + o + ((t + 1 : Nat) : Int) - 1 = s + o + t by omega]
  · rw [rowF_step (by omega) hm (by omega) (by omega) (by omega), show s + o + ((t + 1 : Nat) : Int) - 1 = s + o + t by omega, show o - ((d + 1 : Nat) : Int) + 1 = o - d by omega]
def pF (F : Int) (j : Nat) : Int := if j = 0 then F else if j = 1 then F else if j = 2 then 2 * F else if j = 3 then 4 * F else 8 * F
theorem bdiff_bd {f : Int → Int} {n F : Int} (j : Nat) (hj : j ≤ 4) (h : ∀ i : Int, n - j ≤ i → i ≤ n → 0 ≤ f i ∧ f i ≤ F) : -pF F j ≤ bdiff f j n ∧ bdiff f j n ≤ pF F j := by
  unfold pF
  match j, hj with
  | 0, _ => have := h n (by omega) (by omega); simp only [bdiff]; omega
  | 1, _ => have := h n (by omega) (by omega); have := h (n - 1) (by omega) (by omega); simp only [bdiff]; omega
  | 2, _ => have := h n (by omega) (by omega); have := h (n - 1) (by omega) (by omega); have := h (n - 1 - 1) (by omega) (by omega); simp only [bdiff]; omega
  | 3, _ => have := h n (by omega) (by omega); have := h (n - 1) (by omega) (by omega); have := h (n - 1 - 1) (by omega) (by omega); have := h (n - 1 - 1 - 1) (by omega) (by omega); simp only [bdiff]; omega
  | 4, _ => have := h n (by omega) (by omega); have := h (n - 1) (by omega) (by omega); have := h (n - 1 - 1) (by omega) (by omega); have := h (n - 1 - 1 - 1) (by omega) (by omega); have := h (n - 1 - 1 - 1 - 1) (by omega) (by omega); simp only [bdiff]; omega
theorem gB_num : ∀ o : Fin 5, ∀ t : Fin 40, 1 ≤ o.val → o.val + t.val ≤ 39 → gB (pF 14424285857143) 60000000 o.val o.val t.val ≤ 8999999900000000000 := by decide +kernel
theorem rowF_bd {nr ad : Int → Int} {o m n : Int} (ho : 1 ≤ o ∧ o ≤ 4) (hm : o + 2 ≤ m ∧ m ≤ 40) (hn : 0 ≤ n) (hno : o ≤ n % m) (hnr : ∀ i : Int, n - n % m ≤ i → i ≤ n → 0 ≤ nr i ∧ nr i ≤ 14424285857143) (had : ∀ i c : Int, n - n % m + o < i → i ≤ n → 0 ≤ c → c < o → -60000000 ≤ ad (5 * i + c) ∧ ad (5 * i + c) ≤ 60000000) : -8999999900000000000 ≤ rowF nr ad o m n 0 ∧ rowF nr ad o m n 0 ≤ 8999999900000000000 := by
  obtain ⟨b1, b2, b3, b4⟩ := blk_st (m := m) (n := n) (by omega) hn
  obtain ⟨s, hs⟩ : ∃ y : Int, y = n - n % m := ⟨_, rfl⟩
  rw [← hs] at b1 b2 b3 b4 hnr had
  have hq := emod_bd2 n m (by omega)
  obtain ⟨T, hT⟩ : ∃ T : Nat, n = s + o + T := ⟨(n - s - o).toNat, by omega⟩
  have key := gB_bd (X := fun t d => rowF nr ad o m (s + o + t) (o - d)) (P := pF 14424285857143) (e := 60000000) (o := o.toNat) (Tm := T) (fun d hd => by
      have e0 : (s + o + ((0 : Nat) : Int)) % m = s + o + ((0 : Nat) : Int) - s := blk_mod (by omega) b1 (by omega) (by omega)
      show _ ≤ rowF nr ad o m (s + o + ((0 : Nat) : Int)) (o - d) ∧ rowF nr ad o m (s + o + ((0 : Nat) : Int)) (o - d) ≤ _
      rw [rowF_piv (by omega) (by omega) (by omega) (by omega), show (o - (d : Int)).toNat = o.toNat - d by omega]
      exact bdiff_bd _ (by omega) (fun i w1 w2 => hnr i (by omega) (by omega)))
    (fun t ht => (rowF_X (d := 0) (by omega) (by omega) b1 b2 (by omega)).1)
    (fun t d ht hd => ⟨_, (rowF_X (by omega) (by omega) b1 b2 (by omega)).2 (by omega), had _ _ (by omega) (by omega) (by omega) (by omega)⟩) T (Nat.le_refl _) o.toNat (Nat.le_refl _)
  have hb := gB_num ⟨o.toNat, by omega⟩ ⟨T, by omega⟩ (by show 1 ≤ o.toNat; omega) (by show o.toNat + T ≤ 39; omega)
  have key2 : -gB (pF 14424285857143) 60000000 o.toNat o.toNat T ≤ rowF nr ad o m (s + o + T) (o - ((o.toNat : Nat) : Int)) ∧ rowF nr ad o m (s + o + T) (o - ((o.toNat : Nat) : Int)) ≤ gB (pF 14424285857143) 60000000 o.toNat o.toNat T := key
  rw [show o - ((o.toNat : Nat) : Int) = 0 by omega, ← hT] at key2
  have hb2 : gB (pF 14424285857143) 60000000 o.toNat o.toNat T ≤ 8999999900000000000 := hb
  omega
theorem nearBy_le {a b h : Int} : nearBy a b h ≤ a / b + 1 := by
  unfold nearBy
  (repeat' split) <;> omega
theorem ten_6 {p : Int} (h : 0 ≤ p ∧ p ≤ 6) : 1 ≤ (10 : Int) ^ p.toNat ∧ (10 : Int) ^ p.toNat ≤ 1000000 := by
  have h1 : ∀ k : Fin 7, 1 ≤ (10 : Int) ^ k.val ∧ (10 : Int) ^ k.val ≤ 1000000 := by decide
  exact h1 ⟨p.toNat, by omega⟩
theorem nearV_sharp {s a b x p h : Int} (hab : AB a b) (hx : XP x p) : 0 ≤ nearV s a b x p h ∧ nearV s a b x p h ≤ 14424285857143 := by
  have ht := ten_6 (p := p) (by omega)
  unfold nearV
  by_cases c0 : s = 0
  · have hu := under_bd hab hx
    have hi := isq_bd hu
    rw [if_pos c0]
    split <;> omega
  · rw [if_neg c0]
    have ha := above_bd (s := s) hab hx
    have hb := below_bd (s := s) (x := x) (b := b) (by omega) (by omega)
    refine ⟨(nearBy_bd ha.1 hb.1).1, ?_⟩
    refine Int.le_trans nearBy_le ?_
    by_cases c1 : s = 1
    · have h1 : aboveV s a b x p = 1000 * a * 10 ^ p.toNat := if_pos c1
      have h2 := (mul_bd (a := 1000 * a) (b := 10 ^ p.toNat) (M := 99000) (N := 1000000) (by omega) (by omega))
      have h3 := (ediv_bd (aboveV s a b x p) (belowV s b x) hb.1).1 ha.1
      omega
    · have h1 : aboveV s a b x p = (x * x + a * x + b) * 10 ^ p.toNat := if_neg c1
      have h2 : belowV s b x = 7 := if_neg c1
      have h3 := mul_bd (a := x) (b := x) (M := 9999) (N := 9999) (by omega) (by omega)
      have h4 := mul_bd (a := a) (b := x) (M := 99) (N := 9999) (by omega) (by omega)
      have h5 := mul_bd (a := x * x + a * x + b) (b := 10 ^ p.toNat) (M := 100970001) (N := 1000000) (by omega) (by omega)
      rw [h2]
      omega
theorem adN_bd {mem : Int → Int → Int} (hS : SLS mem) (p q i : Int) : ∀ k : Nat, (k : Int) ≤ mem 35 45 → -(1000000 * k) ≤ adN mem p q k i ∧ adN mem p q k i ≤ 1000000 * k := by
  intro k
  induction k with
  | zero => intro _; exact ⟨Int.le_refl _, Int.le_refl _⟩
  | succ k ih =>
    intro h
    have i2 := ih (by omega)
    have g := hS.2.2 k (by omega) (by omega)
    unfold adN
    split <;> omega
theorem adS_bd {mem : Int → Int → Int} (hS : SLS mem) (p q i : Int) : -60000000 ≤ adS mem p q i ∧ adS mem p q i ≤ 60000000 := by
  have h1 := hS.1
  have h2 := hS.2.1
  have := adN_bd hS p q i (mem 35 45).toNat (by omega)
  unfold adS
  omega
theorem numQ_bd {mem : Int → Int → Int} {p n q : Int} (hp : PG mem p) (hS : SLS mem) (hn : 0 ≤ n ∧ n < mem 47 p) : -9000000000000000000 ≤ numQ mem p n q ∧ numQ mem p n q ≤ 9000000000000000000 := by
  have hb := blk_st (m := mem 52 p) (n := n) (by omega) hn.1
  have hnr : ∀ i : Int, 0 ≤ i → i < mem 47 p → 0 ≤ nearP mem p i ∧ nearP mem p i ≤ 14424285857143 := fun i w1 w2 => by
    have h1 : i * mem 48 p ≤ (mem 47 p - 1) * mem 48 p := Int.mul_le_mul_of_nonneg_right (by omega) (by omega)
    have h2 : 0 ≤ i * mem 48 p := Int.mul_nonneg w1 (by omega)
    exact nearV_sharp (by obtain ⟨-, -, g, -⟩ := hp; omega) (by omega)
  unfold numQ
  by_cases c : n % mem 52 p ≤ mem 49 p
  · rw [numF_piv hn.1 (by omega) (by omega) c]
    have := hnr n hn.1 hn.2
    omega
  · rw [numF_made hn.1 (by omega) (by omega) c]
    have h1 := rowF_bd (nr := nearP mem p) (ad := adS mem p q) (o := mem 49 p) (m := mem 52 p) (n := n) (by omega) (by omega) hn.1 (by omega) (fun i w1 w2 => hnr i (by omega) (by omega)) (fun i c _ _ _ _ => adS_bd hS p q _)
    have h2 := adS_bd hS p q (5 * n + 4)
    omega
theorem keptV_bd {mem : Int → Int → Int} {p x : Int} (hp : PG mem p) (hx : -9000000000000000000 ≤ x ∧ x ≤ 9000000000000000000) : -9000000000000000000 ≤ keptV mem p x ∧ keptV mem p x ≤ 9000000000000000000 := by
  unfold keptV
  rw [wL_id ⟨by omega, by omega⟩]
  have ht := ten_6 (p := mem 51 p) (by omega)
  obtain ⟨B, hB⟩ : ∃ y : Int, y = (10 : Int) ^ (mem 51 p).toNat := ⟨_, rfl⟩
  rw [← hB] at ht ⊢
  have hd := ediv_bd x B ht.1
  unfold nearBy
  by_cases c : B = 1
  · rw [c, Int.ediv_one, Int.mul_one, Int.sub_self]
    (repeat' split) <;> omega
  · have h2 : x / B ≤ 4500000000000000000 ∧ -4500000000000000001 ≤ x / B := by
      constructor
      · have := Int.ediv_le_ediv (c := B) (by omega) hx.2
        have h3 : (9000000000000000000 : Int) / B ≤ 4500000000000000000 := Int.ediv_le_of_le_mul (by omega) (by omega)
        omega
      · have := Int.le_ediv_of_mul_le (a := -4500000000000000001) (b := x) (c := B) (by omega) (by omega)
        omega
    (repeat' split) <;> omega
end BOUNDS
