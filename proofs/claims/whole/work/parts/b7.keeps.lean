section KEEPS
/-! the model's cells keep their bounds, call by call -/
theorem MI.k_days {M : Int → Int → Int} (h : MI M) (v : Int) (hv : M 35 0 ≤ v ∧ v ≤ 1000) : MI (set2 M 35 0 v) := by
  obtain ⟨m1, m2, m3, m4, m5, m6, m7, m8, m9, m10, m11, m12, m13, m14, m15, m16, m17, m18, m19, m20, m21, m22, m23, m24, m25, m26, m27, m28⟩ := id h
  exact ⟨(show 0 ≤ v ∧ v ≤ 1000 by omega), (show -1 ≤ M 35 2 ∧ M 35 2 ≤ v by omega), m3, m4, m5, m6, m7, ⟨m8.1, m8.2.1, fun s u1 u2 => by
    obtain ⟨a1, a2, a3, a4, a5, a6, a7, a8, a9, a10, a11, a12, a13⟩ := m8.2.2 s u1 u2
    exact ⟨a1, a2, a3, a4, a5, a6, a7, a8, a9, a10, (show M 67 s ≤ v by omega), a12, (show M 68 s ≤ v by omega)⟩⟩, m9, m10, m11, m12, m13, m14, m15, m16, m17, m18, m19, m20, m21, m22, m23, m24, m25, m26, m27, m28⟩
theorem MI.k_as {M : Int → Int → Int} (h : MI M) (v : Int) (hv : -1 ≤ v ∧ v ≤ M 35 0) : MI (set2 M 35 2 v) := by
  obtain ⟨m1, m2, m3, m4, m5, m6, m7, m8, m9, m10, m11, m12, m13, m14, m15, m16, m17, m18, m19, m20, m21, m22, m23, m24, m25, m26, m27, m28⟩ := id h
  exact ⟨m1, hv, m3, m4, m5, m6, m7, m8, m9, m10, m11, m12, m13, m14, m15, m16, m17, m18, m19, m20, m21, m22, m23, m24, m25, m26, m27, m28⟩
theorem MI.k_drift {M : Int → Int → Int} (h : MI M) (v : Int) (hv : 0 ≤ v ∧ v ≤ 1000) : MI (set2 M 35 46 v) := by
  obtain ⟨m1, m2, m3, m4, m5, m6, m7, m8, m9, m10, m11, m12, m13, m14, m15, m16, m17, m18, m19, m20, m21, m22, m23, m24, m25, m26, m27, m28⟩ := id h
  exact ⟨m1, m2, m3, m4, m5, m6, m7, m8, m9, m10, m11, m12, m13, m14, m15, m16, m17, m18, m19, m20, m21, m22, m23, m24, m25, m26, hv, m28⟩
theorem MI.k_hours {M : Int → Int → Int} (h : MI M) (v : Int) (hv : 1 ≤ v ∧ v ≤ 100) : MI (set2 M 35 89 v) := by
  obtain ⟨m1, m2, m3, m4, m5, m6, m7, m8, m9, m10, m11, m12, m13, m14, m15, m16, m17, m18, m19, m20, m21, m22, m23, m24, m25, m26, m27, m28⟩ := id h
  exact ⟨m1, m2, m3, m4, m5, m6, m7, m8, m9, m10, m11, m12, m13, m14, m15, m16, m17, m18, m19, m20, m21, m22, m23, m24, m25, m26, m27, hv⟩
theorem MI.k_end {M : Int → Int → Int} (h : MI M) (v : Int) (hv : 0 ≤ v ∧ v ≤ M 35 11) : MI (set2 M 35 11 v) := by
  obtain ⟨m1, m2, m3, m4, m5, m6, m7, m8, m9, m10, m11, m12, m13, m14, m15, m16, m17, m18, m19, m20, m21, m22, m23, m24, m25, m26, m27, m28⟩ := id h
  exact ⟨m1, m2, m3, ⟨hv.1, (show v ≤ 160 by have := m4.2.1; omega), m4.2.2⟩, m5, m6, m7, m8, m9, m10, m11, m12, m13, m14, m15, m16, m17, m18, m19, m20, m21, m22, m23, m24, m25, m26, m27, m28⟩
theorem dblM_e {M : Int → Int → Int} {x y a b d : Int} (r j : Int) : dblM M x y a b d r j = if r = 35 ∧ j = 65 then M 35 65 + 1 else if j = M 35 65 ∧ 77 ≤ r ∧ r ≤ 81 then (if r = 77 then x else if r = 78 then y else if r = 79 then a else if r = 80 then b else d) else M r j := by
  unfold dblM set2
  by_cases w1 : r = 35 ∧ j = 65
  · rw [if_pos w1, if_pos w1]
  · rw [if_neg w1, if_neg w1]
    by_cases w2 : j = M 35 65 ∧ 77 ≤ r ∧ r ≤ 81
    · rw [if_pos w2]
      obtain ⟨w3, w4⟩ := w2
      rcases (show r = 77 ∨ r = 78 ∨ r = 79 ∨ r = 80 ∨ r = 81 by omega) with rfl | rfl | rfl | rfl | rfl
      · rw [if_neg (by omega), if_neg (by omega), if_neg (by omega), if_neg (by omega), if_pos ⟨rfl, w3⟩, if_pos rfl]
      · rw [if_neg (by omega), if_neg (by omega), if_neg (by omega), if_pos ⟨rfl, w3⟩, if_neg (by decide), if_pos rfl]
      · rw [if_neg (by omega), if_neg (by omega), if_pos ⟨rfl, w3⟩, if_neg (by decide), if_neg (by decide), if_pos rfl]
      · rw [if_neg (by omega), if_pos ⟨rfl, w3⟩, if_neg (by decide), if_neg (by decide), if_neg (by decide), if_pos rfl]
      · rw [if_pos ⟨rfl, w3⟩, if_neg (by decide), if_neg (by decide), if_neg (by decide), if_neg (by decide)]
    · rw [if_neg w2, if_neg (by omega), if_neg (by omega), if_neg (by omega), if_neg (by omega), if_neg (by omega)]
theorem MI.k_doubled {M : Int → Int → Int} (h : MI M) (x y a b d : Int) (hv : dblC M x y a b d) : MI (dblM M x y a b d) := by
  obtain ⟨m1, m2, m3, m4, m5, m6, m7, m8, m9, m10, m11, m12, m13, m14, m15, m16, m17, m18, m19, m20, m21, m22, m23, m24, m25, m26, m27, m28⟩ := id h
  have e65 : dblM M x y a b d 35 65 = M 35 65 + 1 := by rw [dblM_e, if_pos ⟨rfl, rfl⟩]
  have ek : ∀ r k : Int, 77 ≤ r → r ≤ 81 → k ≠ M 35 65 → dblM M x y a b d r k = M r k := fun r k u1 u2 u3 => by rw [dblM_e, if_neg (by omega), if_neg (by omega)]
  have en : ∀ r : Int, 77 ≤ r → r ≤ 81 → dblM M x y a b d r (M 35 65) = if r = 77 then x else if r = 78 then y else if r = 79 then a else if r = 80 then b else d := fun r u1 u2 => by rw [dblM_e, if_neg (by omega), if_pos ⟨rfl, u1, u2⟩]
  have n11 : DBS (dblM M x y a b d) := by
    refine ⟨by rw [e65]; omega, by rw [e65]; omega, fun k u1 u2 => ?_⟩
    rw [e65] at u2
    by_cases w : k = M 35 65
    · rw [w, en 77 (by decide) (by decide), en 78 (by decide) (by decide), en 79 (by decide) (by decide), en 80 (by decide) (by decide), en 81 (by decide) (by decide)]
      show InI x ∧ InI y ∧ 0 ≤ a ∧ a ≤ 1000 ∧ 0 ≤ b ∧ b ≤ 1000 ∧ 0 ≤ d ∧ d ≤ 1000
      exact ⟨⟨by omega, by omega⟩, ⟨by omega, by omega⟩, by omega, by omega, by omega, by omega, by omega, by omega⟩
    · rw [ek 77 k (by decide) (by decide) w, ek 78 k (by decide) (by decide) w, ek 79 k (by decide) (by decide) w, ek 80 k (by decide) (by decide) w, ek 81 k (by decide) (by decide) w]
      exact m11.2.2 k u1 (by omega)
  have n12 : ∀ k : Int, 0 ≤ k → k < dblM M x y a b d 35 65 → 0 ≤ dblM M x y a b d 77 k ∧ dblM M x y a b d 77 k ≤ 7 ∧ 0 ≤ dblM M x y a b d 78 k ∧ dblM M x y a b d 78 k ≤ 7 ∧ dblM M x y a b d 77 k ≠ dblM M x y a b d 78 k := fun k u1 u2 => by
    rw [e65] at u2
    by_cases w : k = M 35 65
    · rw [w, en 77 (by decide) (by decide), en 78 (by decide) (by decide)]
      show 0 ≤ x ∧ x ≤ 7 ∧ 0 ≤ y ∧ y ≤ 7 ∧ x ≠ y
      exact ⟨hv.1.1, hv.1.2, hv.2.1.1, hv.2.1.2, hv.2.2.1⟩
    · rw [ek 77 k (by decide) (by decide) w, ek 78 k (by decide) (by decide) w]
      exact m12 k u1 (by omega)
  exact ⟨m1, m2, m3, m4, m5, m6, m7, m8, m9, m10, n11, n12, m13, m14, m15, m16, m17, m18, m19, m20, m21, m22, m23, m24, m25, m26, m27, m28⟩
theorem MI.k_func {M : Int → Int → Int} (h : MI M) (s a b : Int) (hv : funC M s a b) : MI (funM M s a b) := by
  obtain ⟨m1, m2, m3, m4, m5, m6, m7, m8, m9, m10, m11, m12, m13, m14, m15, m16, m17, m18, m19, m20, m21, m22, m23, m24, m25, m26, m27, m28⟩ := id h
  have ek : ∀ r k : Int, 36 ≤ r → r ≤ 38 → k ≠ M 35 6 → funM M s a b r k = M r k := fun r k u1 u2 u3 => by
    unfold funM set2
    rw [if_neg (by omega), if_neg (by omega), if_neg (by omega), if_neg (by omega)]
  have e36 : funM M s a b 36 (M 35 6) = s := by unfold funM; rw [s2_a (by decide), s2_a (by decide), s2_a (by decide), s2_s]
  have e37 : funM M s a b 37 (M 35 6) = a := by unfold funM; rw [s2_a (by decide), s2_a (by decide), s2_s]
  have e38 : funM M s a b 38 (M 35 6) = b := by unfold funM; rw [s2_a (by decide), s2_s]
  have fk : ∀ f : Int, 0 ≤ f → f < M 35 6 → FN (funM M s a b) f := fun f u1 u2 => by
    have w := m3.2.2 f u1 (by omega)
    unfold FN
    rw [ek 36 f (by decide) (by decide) (by omega), ek 37 f (by decide) (by decide) (by omega), ek 38 f (by decide) (by decide) (by omega)]
    exact w
  have n3 : FNS (funM M s a b) := by
    refine ⟨(show 0 ≤ M 35 6 + 1 by omega), (show M 35 6 + 1 ≤ 10 by omega), fun f u1 u2 => ?_⟩
    have u3 : f ≤ M 35 6 + 1 - 1 := u2
    by_cases w : f = M 35 6
    · unfold FN
      rw [w, e36, e37, e38]
      omega
    · exact fk f u1 (by omega)
  have n6 : PGS (funM M s a b) := ⟨m6.1, m6.2.1, fun p u1 u2 => by
    have u3 : p ≤ M 35 33 - 1 := u2
    have w := m6.2.2 p u1 u3
    have w2 := m7 p u1 (by omega)
    exact ⟨w.1, w.2.1, fk (M 45 p) w2.1 w2.2, w.2.2.2⟩⟩
  have n7 : ∀ p : Int, 0 ≤ p → p < M 35 33 → 0 ≤ M 45 p ∧ M 45 p < M 35 6 + 1 := fun p u1 u2 => by have := m7 p u1 u2; omega
  exact ⟨m1, m2, n3, m4, m5, n6, n7, m8, m9, m10, m11, m12, m13, m14, m15, m16, m17, m18, m19, m20, m21, m22, m23, m24, m25, m26, m27, m28⟩
theorem MI.k_slip {M : Int → Int → Int} (h : MI M) (p n c a : Int) (hv : slipC M p n c a) : MI (slipM M p n c a) := by
  obtain ⟨m1, m2, m3, m4, m5, m6, m7, m8, m9, m10, m11, m12, m13, m14, m15, m16, m17, m18, m19, m20, m21, m22, m23, m24, m25, m26, m27, m28⟩ := id h
  have ek : ∀ r k : Int, 63 ≤ r → r ≤ 68 → k ≠ M 35 45 → slipM M p n c a r k = M r k := fun r k u1 u2 u3 => by
    unfold slipM set2
    rw [if_neg (by omega), if_neg (by omega), if_neg (by omega), if_neg (by omega), if_neg (by omega), if_neg (by omega), if_neg (by omega)]
  have e63 : slipM M p n c a 63 (M 35 45) = p := by unfold slipM; rw [s2_a (by decide), s2_a (by decide), s2_a (by decide), s2_a (by decide), s2_a (by decide), s2_a (by decide), s2_s]
  have e64 : slipM M p n c a 64 (M 35 45) = n := by unfold slipM; rw [s2_a (by decide), s2_a (by decide), s2_a (by decide), s2_a (by decide), s2_a (by decide), s2_s]
  have e65 : slipM M p n c a 65 (M 35 45) = c := by unfold slipM; rw [s2_a (by decide), s2_a (by decide), s2_a (by decide), s2_a (by decide), s2_s]
  have e66 : slipM M p n c a 66 (M 35 45) = a := by unfold slipM; rw [s2_a (by decide), s2_a (by decide), s2_a (by decide), s2_s]
  have e67 : slipM M p n c a 67 (M 35 45) = M 35 0 := by unfold slipM; rw [s2_a (by decide), s2_a (by decide), s2_s]
  have e68 : slipM M p n c a 68 (M 35 45) = -1 := by unfold slipM; rw [s2_a (by decide), s2_s]
  have n8 : SLS (slipM M p n c a) := by
    refine ⟨(show 0 ≤ M 35 45 + 1 by omega), (show M 35 45 + 1 ≤ 60 by omega), fun s u1 u2 => ?_⟩
    have u3 : s ≤ M 35 45 + 1 - 1 := u2
    by_cases w : s = M 35 45
    · unfold SL
      rw [w, e63, e64, e65, e66, e67, e68]
      obtain ⟨⟨⟨v1, v2⟩, v3, v4⟩, v5, v6, v7, v8, v9⟩ := hv
      exact ⟨v1, v2, v3, (show n < M 47 p by omega), v5, v6, v8, v7.1, v7.2, m1.1, Int.le_refl _, by decide, (show -1 ≤ M 35 0 by omega)⟩
    · unfold SL
      rw [ek 63 s (by decide) (by decide) w, ek 64 s (by decide) (by decide) w, ek 65 s (by decide) (by decide) w, ek 66 s (by decide) (by decide) w, ek 67 s (by decide) (by decide) w, ek 68 s (by decide) (by decide) w]
      exact m8.2.2 s u1 (by omega)
  exact ⟨m1, m2, m3, m4, m5, m6, m7, n8, m9, m10, m11, m12, m13, m14, m15, m16, m17, m18, m19, m20, m21, m22, m23, m24, m25, m26, m27, m28⟩
theorem MI.k_mend {M : Int → Int → Int} (h : MI M) (s : Int) : MI (set2 M 68 s (M 35 0)) := by
  obtain ⟨m1, m2, m3, m4, m5, m6, m7, m8, m9, m10, m11, m12, m13, m14, m15, m16, m17, m18, m19, m20, m21, m22, m23, m24, m25, m26, m27, m28⟩ := id h
  have n8 : SLS (set2 M 68 s (M 35 0)) := ⟨m8.1, m8.2.1, fun k u1 u2 => by
    obtain ⟨a1, a2, a3, a4, a5, a6, a7, a8, a9, a10, a11, a12, a13⟩ := m8.2.2 k u1 u2
    by_cases w : k = s
    · refine ⟨a1, a2, a3, a4, a5, a6, a7, a8, a9, a10, a11, ?_, ?_⟩
      · rw [w, s2_s]; omega
      · rw [w, s2_s]; exact Int.le_refl _
    · refine ⟨a1, a2, a3, a4, a5, a6, a7, a8, a9, a10, a11, ?_, ?_⟩
      · rw [s2_k w]; exact a12
      · rw [s2_k w]; exact a13⟩
  exact ⟨m1, m2, m3, m4, m5, m6, m7, n8, m9, m10, m11, m12, m13, m14, m15, m16, m17, m18, m19, m20, m21, m22, m23, m24, m25, m26, m27, m28⟩
theorem MI.k_err {M : Int → Int → Int} (h : MI M) (p n a b : Int) (hv : errC M p n) : MI (errM M p n a b) := by
  obtain ⟨m1, m2, m3, m4, m5, m6, m7, m8, m9, m10, m11, m12, m13, m14, m15, m16, m17, m18, m19, m20, m21, m22, m23, m24, m25, m26, m27, m28⟩ := id h
  have e90 : errM M p n a b 90 (M 35 80) = p := by unfold errM; rw [s2_a (by decide), s2_a (by decide), s2_a (by decide), s2_a (by decide), s2_s]
  have e91 : errM M p n a b 91 (M 35 80) = n := by unfold errM; rw [s2_a (by decide), s2_a (by decide), s2_a (by decide), s2_s]
  have ek : ∀ r k : Int, 90 ≤ r → r ≤ 91 → k ≠ M 35 80 → errM M p n a b r k = M r k := fun r k u1 u2 u3 => by
    unfold errM set2
    rw [if_neg (by omega), if_neg (by omega), if_neg (by omega), if_neg (by omega), if_neg (by omega)]
  have n20 : ERS (errM M p n a b) := by
    refine ⟨(show 0 ≤ M 35 80 + 1 by omega), (show M 35 80 + 1 ≤ 40 by omega), fun s u1 u2 => ?_⟩
    have u3 : s ≤ M 35 80 + 1 - 1 := u2
    by_cases w : s = M 35 80
    · rw [w, e90, e91]
      exact ⟨hv.1.1.1, hv.1.1.2, hv.1.2.1, (show n < M 47 p by omega)⟩
    · rw [ek 90 s (by decide) (by decide) w, ek 91 s (by decide) (by decide) w]
      exact m20.2.2 s u1 (by omega)
  exact ⟨m1, m2, m3, m4, m5, m6, m7, m8, m9, m10, m11, m12, m13, m14, m15, m16, m17, m18, m19, n20, m21, m22, m23, m24, m25, m26, m27, m28⟩
theorem MI.k_apply {M : Int → Int → Int} (h : MI M) (j v : Int) : MI (set2 M 89 j v) := by
  obtain ⟨m1, m2, m3, m4, m5, m6, m7, m8, m9, m10, m11, m12, m13, m14, m15, m16, m17, m18, m19, m20, m21, m22, m23, m24, m25, m26, m27, m28⟩ := id h
  exact ⟨m1, m2, m3, m4, m5, m6, m7, m8, m9, m10, m11, m12, m13, m14, m15, m16, m17, m18, m19, m20, m21, m22, m23, m24, m25, m26, m27, m28⟩
theorem MI.k_other {M : Int → Int → Int} (h : MI M) (p : Int) (hv : isPg M p ∧ M 35 84 ≠ 8) : MI (set2 (set2 M 94 (M 35 84) p) 35 84 (M 35 84 + 1)) := by
  obtain ⟨m1, m2, m3, m4, m5, m6, m7, m8, m9, m10, m11, m12, m13, m14, m15, m16, m17, m18, m19, m20, m21, m22, m23, m24, m25, m26, m27, m28⟩ := id h
  have n21 : OTS (set2 (set2 M 94 (M 35 84) p) 35 84 (M 35 84 + 1)) := by
    refine ⟨(show 0 ≤ M 35 84 + 1 by omega), (show M 35 84 + 1 ≤ 8 by omega), fun s u1 u2 => ?_⟩
    have u3 : s ≤ M 35 84 + 1 - 1 := u2
    rw [s2_a (by decide : (94 : Int) ≠ 35)]
    by_cases w : s = M 35 84
    · rw [w, s2_s]
      exact hv.1
    · rw [s2_k w]
      exact m21.2.2 s u1 (by omega)
  have n23 : ∀ i : Int, 40 * (M 35 84 + 1) ≤ i → i < 320 → M 96 i = 0 := fun i u1 u2 => m23 i (by omega) u2
  exact ⟨m1, m2, m3, m4, m5, m6, m7, m8, m9, m10, m11, m12, m13, m14, m15, m16, m17, m18, m19, m20, n21, m22, n23, m24, m25, m26, m27, m28⟩
theorem MI.k_tell {M : Int → Int → Int} (h : MI M) (t n x : Int) (hv : 0 ≤ t ∧ t < M 35 84 ∧ 0 ≤ n ∧ n < 40) : MI (tellM M t n x) := by
  obtain ⟨m1, m2, m3, m4, m5, m6, m7, m8, m9, m10, m11, m12, m13, m14, m15, m16, m17, m18, m19, m20, m21, m22, m23, m24, m25, m26, m27, m28⟩ := id h
  have n22 : ∀ i : Int, 0 ≤ i → i < 320 → 0 ≤ tellM M t n x 96 i ∧ tellM M t n x 96 i ≤ 1 := fun i u1 u2 => by
    unfold tellM
    by_cases w : i = 40 * t + n
    · rw [w, s2_s]
      split <;> omega
    · rw [s2_k w]
      exact m22 i u1 u2
  have n23 : ∀ i : Int, 40 * M 35 84 ≤ i → i < 320 → tellM M t n x 96 i = 0 := fun i u1 u2 => by
    unfold tellM
    rw [s2_k (by omega)]
    exact m23 i u1 u2
  exact ⟨m1, m2, m3, m4, m5, m6, m7, m8, m9, m10, m11, m12, m13, m14, m15, m16, m17, m18, m19, m20, m21, n22, n23, m24, m25, m26, m27, m28⟩
theorem MI.k_sheet {M : Int → Int → Int} (h : MI M) (k : Int) (hv : (0 ≤ k ∧ k ≤ 2) ∧ M 35 88 ≠ 8) : MI (set2 (set2 M 97 (M 35 88) k) 35 88 (M 35 88 + 1)) := by
  obtain ⟨m1, m2, m3, m4, m5, m6, m7, m8, m9, m10, m11, m12, m13, m14, m15, m16, m17, m18, m19, m20, m21, m22, m23, m24, m25, m26, m27, m28⟩ := id h
  have n24 : SHS (set2 (set2 M 97 (M 35 88) k) 35 88 (M 35 88 + 1)) := by
    refine ⟨(show 0 ≤ M 35 88 + 1 by omega), (show M 35 88 + 1 ≤ 8 by omega), fun s u1 u2 => ?_⟩
    have w2 := m24.2.2 s u1 u2
    rw [s2_a (by decide : (97 : Int) ≠ 35)]
    by_cases w : s = M 35 88
    · rw [w, s2_s, ← w]
      exact ⟨hv.1.1, hv.1.2, w2.2.2⟩
    · rw [s2_k w]
      exact w2
  have n25 : ∀ s : Int, M 35 88 + 1 ≤ s → s < 8 → M 98 s = 0 := fun s u1 u2 => m25 s (by omega) u2
  have n26 : ∀ i : Int, 40 * (M 35 88 + 1) ≤ i → i < 320 → M 99 i = 0 := fun i u1 u2 => m26 i (by omega) u2
  exact ⟨m1, m2, m3, m4, m5, m6, m7, m8, m9, m10, m11, m12, m13, m14, m15, m16, m17, m18, m19, m20, m21, m22, m23, n24, n25, n26, m27, m28⟩
theorem MI.k_put {M : Int → Int → Int} (h : MI M) (s j x : Int) (hv : 0 ≤ s ∧ s < M 35 88 ∧ 0 ≤ j ∧ j ≤ 39) : MI (set2 M 99 (40 * s + j) x) := by
  obtain ⟨m1, m2, m3, m4, m5, m6, m7, m8, m9, m10, m11, m12, m13, m14, m15, m16, m17, m18, m19, m20, m21, m22, m23, m24, m25, m26, m27, m28⟩ := id h
  have n26 : ∀ i : Int, 40 * M 35 88 ≤ i → i < 320 → set2 M 99 (40 * s + j) x 99 i = 0 := fun i u1 u2 => by
    rw [s2_k (by omega)]
    exact m26 i u1 u2
  exact ⟨m1, m2, m3, m4, m5, m6, m7, m8, m9, m10, m11, m12, m13, m14, m15, m16, m17, m18, m19, m20, m21, m22, m23, m24, m25, n26, m27, m28⟩
theorem MI.k_lose {M : Int → Int → Int} (h : MI M) (s : Int) (hv : 0 ≤ s ∧ s < M 35 88) : MI (set2 M 98 s 1) := by
  obtain ⟨m1, m2, m3, m4, m5, m6, m7, m8, m9, m10, m11, m12, m13, m14, m15, m16, m17, m18, m19, m20, m21, m22, m23, m24, m25, m26, m27, m28⟩ := id h
  have n24 : SHS (set2 M 98 s 1) := ⟨m24.1, m24.2.1, fun k u1 u2 => by
    have w2 := m24.2.2 k u1 u2
    by_cases w : k = s
    · refine ⟨w2.1, w2.2.1, ?_⟩
      rw [w, s2_s]
      decide
    · refine ⟨w2.1, w2.2.1, ?_⟩
      rw [s2_k w]
      exact w2.2.2⟩
  have n25 : ∀ k : Int, M 35 88 ≤ k → k < 8 → set2 M 98 s 1 98 k = 0 := fun k u1 u2 => by
    rw [s2_k (by omega)]
    exact m25 k u1 u2
  exact ⟨m1, m2, m3, m4, m5, m6, m7, m8, m9, m10, m11, m12, m13, m14, m15, m16, m17, m18, m19, m20, m21, m22, m23, n24, n25, m26, m27, m28⟩
theorem feedM_fr (B : Int → Int) (M : Int → Int → Int) : ∀ k : Nat, ∀ a j : Int, a ≠ 39 → ¬ (a = 35 ∧ j = 11) → feedM B M k a j = M a j := by
  intro k
  induction k with
  | zero => intro a j _ _; rfl
  | succ k ih =>
    intro a j u1 u2
    unfold feedM
    split
    · exact ih a j u1 u2
    · unfold set2
      rw [if_neg u2, if_neg (fun w => u1 w.1)]
      exact ih a j u1 u2
theorem feedM_row (B : Int → Int) (M : Int → Int → Int) (hB : ∀ k : Int, 0 ≤ B k ∧ B k ≤ 255) (hM : ∀ i : Int, 0 ≤ i → i < 160 → 0 ≤ M 39 i ∧ M 39 i ≤ 255) : ∀ k : Nat, ∀ i : Int, 0 ≤ i → i < 160 → 0 ≤ feedM B M k 39 i ∧ feedM B M k 39 i ≤ 255 := by
  intro k
  induction k with
  | zero => exact hM
  | succ k ih =>
    intro i u1 u2
    unfold feedM
    split
    · exact ih i u1 u2
    · rw [s2_a (by decide)]
      unfold set2
      split
      · exact hB k
      · exact ih i u1 u2
/-- all but these cells as they were -/
theorem MI.k_feed {M M' : Int → Int → Int} (h : MI M) (he : ∀ a j : Int, SC a j → a ≠ 39 → ¬ (a = 35 ∧ j = 11) → M' a j = M a j) (h4 : PTX M') : MI M' := by
  obtain ⟨X, hX⟩ : ∃ X : Int → Int → Int, X = fun a j => if SC a j then (if a = 39 then M' a j else if a = 35 ∧ j = 11 then M' a j else M a j) else M' a j := ⟨_, rfl⟩
  have e : M' = X := by
    funext a j
    rw [hX]
    show M' a j = if SC a j then (if a = 39 then M' a j else if a = 35 ∧ j = 11 then M' a j else M a j) else M' a j
    by_cases q : SC a j
    · rw [if_pos q]
      by_cases q1 : a = 39
      · rw [if_pos q1]
      · rw [if_neg q1]
        by_cases q2 : a = 35 ∧ j = 11
        · rw [if_pos q2]
        · rw [if_neg q2]; exact he a j q q1 q2
    · rw [if_neg q]
  obtain ⟨m1, m2, m3, m4, m5, m6, m7, m8, m9, m10, m11, m12, m13, m14, m15, m16, m17, m18, m19, m20, m21, m22, m23, m24, m25, m26, m27, m28⟩ := id h
  rw [e] at h4 ⊢
  rw [hX] at h4 ⊢
  exact ⟨m1, m2, m3, h4, m5, m6, m7, m8, m9, m10, m11, m12, m13, m14, m15, m16, m17, m18, m19, m20, m21, m22, m23, m24, m25, m26, m27, m28⟩
end KEEPS
