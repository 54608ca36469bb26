section
theorem kap {p : Int} (h : 0 ≤ p ∧ p ≤ 6) : ∃ K : Int, 1 ≤ K ∧ K ≤ 1000000 ∧ (10 : Int) ^ (6 - p).toNat = K ∧ (10 : Int) ^ p.toNat * K = 1000000 ∧ (10 : Int) ^ (2 * p).toNat * (K * K) = 1000000000000 := by
  rcases (show p = 0 ∨ p = 1 ∨ p = 2 ∨ p = 3 ∨ p = 4 ∨ p = 5 ∨ p = 6 by omega) with rfl | rfl | rfl | rfl | rfl | rfl | rfl
  · exact ⟨1000000, by decide⟩
  · exact ⟨100000, by decide⟩
  · exact ⟨10000, by decide⟩
  · exact ⟨1000, by decide⟩
  · exact ⟨100, by decide⟩
  · exact ⟨10, by decide⟩
  · exact ⟨1, by decide⟩
theorem sqK (K y : Int) : (K * y) * (K * y) = (K * K) * (y * y) := by rw [Int.mul_assoc, Int.mul_left_comm y K y, ← Int.mul_assoc]
theorem dbl (K y : Int) : 2 * (K * y) = K * (2 * y) := Int.mul_left_comm 2 K y
/-- the whole and the half steps of the root -/
theorem r_ge {W V K y : Int} (hK : 1 ≤ K) (hW : W = (K * K) * V) (hV : 0 ≤ V) (hy : 0 ≤ y) : 2 * (K * y) ≤ rootQ W ↔ y * y ≤ V := by
  have hKK : 0 < K * K := Int.mul_pos (by omega) (by omega)
  have hW0 : 0 ≤ W := by rw [hW]; exact Int.mul_nonneg (by omega) hV
  rw [rootQ_ge hW0 (Int.mul_nonneg (by omega) hy), sqK, hW]
  exact ⟨fun h => Int.le_of_mul_le_mul_left h hKK, fun h => Int.mul_le_mul_of_nonneg_left h (by omega)⟩
theorem r_gt {W V K y : Int} (hK : 1 ≤ K) (hW : W = (K * K) * V) (hV : 0 ≤ V) (hy : 0 ≤ y) : 2 * (K * y) < rootQ W ↔ y * y < V := by
  have hKK : 0 < K * K := Int.mul_pos (by omega) (by omega)
  have hW0 : 0 ≤ W := by rw [hW]; exact Int.mul_nonneg (by omega) hV
  rw [rootQ_gt hW0 (Int.mul_nonneg (by omega) hy), sqK, hW]
  exact ⟨fun h => Int.lt_of_mul_lt_mul_left h (by omega), fun h => Int.mul_lt_mul_of_pos_left h hKK⟩
theorem d_ge {T A K y u : Int} (hK : 1 ≤ K) (hT : T = K * A) (hu : 0 < u) : 2 * (K * y) ≤ divQ T u ↔ y * u ≤ A := by
  rw [divQ_ge hu, hT, Int.mul_assoc]
  exact ⟨fun h => Int.le_of_mul_le_mul_left h (by omega), fun h => Int.mul_le_mul_of_nonneg_left h (by omega)⟩
theorem d_gt {T A K y u : Int} (hK : 1 ≤ K) (hT : T = K * A) (hu : 0 < u) : 2 * (K * y) < divQ T u ↔ y * u < A := by
  rw [divQ_gt hu, hT, Int.mul_assoc]
  exact ⟨fun h => Int.lt_of_mul_lt_mul_left h (by omega), fun h => Int.mul_lt_mul_of_pos_left h (by omega)⟩
/-- what is known of the quarters at a place: n the whole part -/
theorem q_facts {s a b x p K : Int} (hab : AB a b) (hx : XP x p) (hK : 1 ≤ K ∧ K ≤ 1000000 ∧ (10 : Int) ^ (6 - p).toNat = K ∧ (10 : Int) ^ p.toNat * K = 1000000 ∧ (10 : Int) ^ (2 * p).toNat * (K * K) = 1000000000000) :
    0 ≤ exactV s a b x p ∧ 4 * K * exactV s a b x p ≤ qV s a b x ∧ qV s a b x < 4 * K * exactV s a b x p + 4 * K ∧
    (4 * K * exactV s a b x p < qV s a b x ↔ if s = 0 then isq (underV a b x p) * isq (underV a b x p) < underV a b x p else exactV s a b x p * belowV s b x < aboveV s a b x p) ∧
    (4 * K * exactV s a b x p + 2 * K ≤ qV s a b x ↔ if s = 0 then isq (underV a b x p) * isq (underV a b x p) + isq (underV a b x p) < underV a b x p else belowV s b x ≤ 2 * (aboveV s a b x p - exactV s a b x p * belowV s b x)) ∧
    (4 * K * exactV s a b x p + 2 * K < qV s a b x ↔ if s = 0 then isq (underV a b x p) * isq (underV a b x p) + isq (underV a b x p) < underV a b x p else belowV s b x < 2 * (aboveV s a b x p - exactV s a b x p * belowV s b x)) := by
  obtain ⟨hK1, hK2, hK3, hK4, hK5⟩ := hK
  have e0 := exact_bd (s := s) hab hx
  refine ⟨e0.1, ?_⟩
  have c1 : ∀ n : Int, 4 * K * n = 2 * (K * (2 * n)) := fun n => by rw [Int.mul_assoc, Int.mul_left_comm K 2 n]; omega
  have c2 : ∀ n : Int, 4 * K * n + 2 * K = 2 * (K * (2 * n + 1)) := fun n => by rw [Int.mul_add, Int.mul_one, Int.mul_assoc, Int.mul_left_comm K 2 n]; omega
  have c3 : ∀ n : Int, 4 * K * n + 4 * K = 2 * (K * (2 * (n + 1))) := fun n => by rw [show 2 * (n + 1) = 2 * n + 2 by omega, Int.mul_add, Int.mul_assoc, Int.mul_left_comm K 2 n]; omega
  rw [c3, c2, c1]
  by_cases hs : s = 0
  · have hu := under_bd hab hx
    have h1 := isq_le hu.1
    have h2 := isq_lt hu.1
    have hq : qV s a b x = rootQ (4000000000000 * (a * x + b)) := by unfold qV; rw [if_pos hs]
    have he : exactV s a b x p = isq (underV a b x p) := by unfold exactV; rw [if_pos hs]
    have hW : 4000000000000 * (a * x + b) = (K * K) * (4 * underV a b x p) := by
      unfold underV
      rw [Int.mul_left_comm (K * K) 4, Int.mul_left_comm (K * K) (a * x + b), Int.mul_comm (K * K), hK5]
      omega
    rw [hq, he, if_pos hs, if_pos hs, if_pos hs]
    rw [he] at e0
    generalize underV a b x p = V at *
    generalize isq V = n at *
    have g4 : (2 * n) * (2 * n) = 4 * (n * n) := by rw [Int.mul_assoc, Int.mul_left_comm n 2 n]; omega
    have g5 : (2 * n + 1) * (2 * n + 1) = 4 * (n * n) + 4 * n + 1 := by rw [Int.mul_add, Int.add_mul, g4]; omega
    have g6 : (2 * (n + 1)) * (2 * (n + 1)) = 4 * ((n + 1) * (n + 1)) := by rw [Int.mul_assoc, Int.mul_left_comm (n + 1) 2 (n + 1)]; omega
    have k1 := r_ge (y := 2 * n) hK1 hW (by omega) (by omega)
    have k2 := r_gt (y := 2 * n) hK1 hW (by omega) (by omega)
    have k3 := r_ge (y := 2 * n + 1) hK1 hW (by omega) (by omega)
    have k4 := r_gt (y := 2 * n + 1) hK1 hW (by omega) (by omega)
    have k5 := r_ge (y := 2 * (n + 1)) hK1 hW (by omega) (by omega)
    rw [g4] at k1 k2
    rw [g5] at k3 k4
    rw [g6] at k5
    generalize rootQ (4000000000000 * (a * x + b)) = Q at *
    refine ⟨k1.mpr (by omega), ?_, k2.trans (by omega), k3.trans (by omega), k4.trans (by omega)⟩
    have : ¬ 2 * (K * (2 * (n + 1))) ≤ Q := fun h => by have := k5.mp h; omega
    omega
  · have hu := below_bd (s := s) (b := b) (x := x) (by omega) (by omega)
    have hq : qV s a b x = divQ (topV s a b x) (belowV s b x) := by unfold qV; rw [if_neg hs]
    have he : exactV s a b x p = aboveV s a b x p / belowV s b x := by unfold exactV; rw [if_neg hs]
    have hT : topV s a b x = K * (2 * aboveV s a b x p) := by
      unfold topV aboveV
      rw [Int.mul_left_comm K 2]
      split
      · rw [Int.mul_left_comm K (1000 * a), Int.mul_comm K, hK4]; omega
      · rw [Int.mul_left_comm K (x * x + a * x + b), Int.mul_comm K, hK4]; omega
    have hd := ediv_mul_bd (aboveV s a b x p) (belowV s b x) hu.1
    rw [hq, if_neg hs, if_neg hs, if_neg hs]
    rw [← he] at hd
    generalize exactV s a b x p = n at *
    generalize aboveV s a b x p = A at *
    generalize belowV s b x = u at *
    have g4 : (2 * n) * u = 2 * (n * u) := Int.mul_assoc 2 n u
    have g5 : (2 * n + 1) * u = 2 * (n * u) + u := by rw [Int.add_mul, g4, Int.one_mul]
    have g6 : (2 * (n + 1)) * u = 2 * (n * u) + 2 * u := by rw [Int.mul_assoc, Int.add_mul, Int.one_mul]; omega
    have k1 := d_ge (y := 2 * n) (u := u) hK1 hT (by omega)
    have k2 := d_gt (y := 2 * n) (u := u) hK1 hT (by omega)
    have k3 := d_ge (y := 2 * n + 1) (u := u) hK1 hT (by omega)
    have k4 := d_gt (y := 2 * n + 1) (u := u) hK1 hT (by omega)
    have k5 := d_ge (y := 2 * (n + 1)) (u := u) hK1 hT (by omega)
    rw [g4] at k1 k2
    rw [g5] at k3 k4
    rw [g6] at k5
    generalize divQ (topV s a b x) u = Q at *
    refine ⟨k1.mpr (by omega), ?_, k2.trans (by omega), k3.trans (by omega), k4.trans (by omega)⟩
    have : ¬ 2 * (K * (2 * (n + 1))) ≤ Q := fun h => by have := k5.mp h; omega
    omega
theorem qV_exact {s a b x p : Int} (hab : AB a b) (hx : XP x p) : qV s a b x / (4 * (10 : Int) ^ (6 - p).toNat) = exactV s a b x p := by
  obtain ⟨K, hK⟩ := kap (p := p) (by omega)
  have h := q_facts (s := s) hab hx hK
  rw [hK.2.2.1]
  exact floor_of (by omega) h.2.1 (by rw [Int.mul_add, Int.mul_one]; omega)
theorem qV_mod {s a b x p : Int} (hab : AB a b) (hx : XP x p) : qV s a b x % (4 * (10 : Int) ^ (6 - p).toNat) = 0 ↔ if s = 0 then isq (underV a b x p) * isq (underV a b x p) = underV a b x p else exactV s a b x p * belowV s b x = aboveV s a b x p := by
  have h1 := qV_exact (s := s) hab hx
  obtain ⟨K, hK⟩ := kap (p := p) (by omega)
  have h := q_facts (s := s) hab hx hK
  rw [hK.2.2.1] at h1 ⊢
  have h2 := Int.mul_ediv_add_emod (qV s a b x) (4 * K)
  rw [h1] at h2
  have h4 : ¬ 4 * K * exactV s a b x p < qV s a b x ↔ qV s a b x % (4 * K) = 0 := by omega
  rw [← h4, h.2.2.2.1]
  split
  · have := isq_le (under_bd hab hx).1
    omega
  · have := exact_mul_bd s a b x p (by assumption) hab hx
    omega
theorem qV_near {s a b x p : Int} (ho : Int) (hab : AB a b) (hx : XP x p) : nearBy (qV s a b x) (4 * (10 : Int) ^ (6 - p).toNat) ho = nearV s a b x p ho := by
  have h1 := qV_exact (s := s) hab hx
  obtain ⟨K, hK⟩ := kap (p := p) (by omega)
  have h := q_facts (s := s) hab hx hK
  rw [hK.2.2.1] at h1 ⊢
  obtain ⟨h0, h2, h3, h4, h5, h6⟩ := h
  unfold nearBy nearV
  rw [h1, Int.mul_comm (exactV s a b x p) (4 * K)]
  by_cases hs : s = 0
  · rw [if_pos hs] at h4 h5 h6 ⊢
    have he : exactV s a b x p = isq (underV a b x p) := by unfold exactV; rw [if_pos hs]
    rw [← he] at h4 h5 h6 ⊢
    by_cases hc : exactV s a b x p * exactV s a b x p + exactV s a b x p < underV a b x p
    · have q1 := h6.mpr hc
      rw [if_pos (by omega), if_pos (by omega), if_pos (by omega)]
    · have q1 := fun h => hc (h5.mp h)
      rw [if_pos (by omega), if_neg (by omega), if_neg (by omega)]
  · rw [if_neg hs] at h4 h5 h6 ⊢
    have he : exactV s a b x p = aboveV s a b x p / belowV s b x := by unfold exactV; rw [if_neg hs]
    unfold nearBy
    rw [← he]
    generalize exactV s a b x p = n at *
    generalize aboveV s a b x p = A at *
    generalize belowV s b x = u at *
    by_cases hc : u < 2 * (A - n * u)
    · have q1 := h6.mpr hc
      rw [if_pos (by omega), if_pos (by omega), if_pos (by omega), if_pos (by omega)]
    · have q1 := fun h => hc (h6.mp h)
      by_cases hd : u ≤ 2 * (A - n * u)
      · have q2 := h5.mpr hd
        rw [if_neg (show ¬ 2 * (qV s a b x - 4 * K * n) ≠ 4 * K by omega), if_neg (show ¬ 2 * (A - n * u) ≠ u by omega)]
      · have q2 := fun h => hd (h5.mp h)
        rw [if_pos (by omega), if_neg (by omega), if_pos (by omega), if_neg (by omega)]
end
