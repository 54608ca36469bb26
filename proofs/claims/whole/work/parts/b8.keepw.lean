section KEEPW
theorem MI.w_feed {M M' : Int → Int → Int} (h : MI M) (he : ∀ a j : Int, SC a j → ¬ (a = 39 ∨ (a = 35 ∧ j = 11)) → M' a j = M a j) (h4 : PTX M') : MI M' := by
  obtain ⟨X, hX⟩ : ∃ X : Int → Int → Int, X = fun a j => if SC a j then (if a = 39 ∨ (a = 35 ∧ j = 11) then M' a j else M a j) else M' a j := ⟨_, rfl⟩
  have e : M' = X := by
    funext a j
    rw [hX]
    show M' a j = if SC a j then (if a = 39 ∨ (a = 35 ∧ j = 11) then M' a j else M a j) else M' a j
    by_cases q : SC a j
    · rw [if_pos q]
      by_cases q1 : a = 39 ∨ (a = 35 ∧ j = 11)
      · rw [if_pos q1]
      · rw [if_neg q1]; exact he a j q q1
    · rw [if_neg q]
  obtain ⟨m1, m2, m3, m4, m5, m6, m7, m8, m9, m10, m11, m12, m13, m14, m15, m16, m17, m18, m19, m20, m21, m22, m23, m24, m25, m26, m27, m28⟩ := id h
  rw [e] at h4 ⊢
  rw [hX] at h4 ⊢
  exact ⟨m1, m2, m3, h4, m5, m6, m7, m8, m9, m10, m11, m12, m13, m14, m15, m16, m17, m18, m19, m20, m21, m22, m23, m24, m25, m26, m27, m28⟩
theorem MI.w_plan {M M' : Int → Int → Int} (h : MI M) (he : ∀ a j : Int, SC a j → ¬ (a = 41 ∨ a = 42 ∨ (a = 35 ∧ j = 11) ∨ (a = 35 ∧ j = 16)) → M' a j = M a j) (h4 : PTX M') (h5 : 0 ≤ M' 35 16 ∧ M' 35 16 ≤ 12) : MI M' := by
  obtain ⟨X, hX⟩ : ∃ X : Int → Int → Int, X = fun a j => if SC a j then (if a = 41 ∨ a = 42 ∨ (a = 35 ∧ j = 11) ∨ (a = 35 ∧ j = 16) then M' a j else M a j) else M' a j := ⟨_, rfl⟩
  have e : M' = X := by
    funext a j
    rw [hX]
    show M' a j = if SC a j then (if a = 41 ∨ a = 42 ∨ (a = 35 ∧ j = 11) ∨ (a = 35 ∧ j = 16) then M' a j else M a j) else M' a j
    by_cases q : SC a j
    · rw [if_pos q]
      by_cases q1 : a = 41 ∨ a = 42 ∨ (a = 35 ∧ j = 11) ∨ (a = 35 ∧ j = 16)
      · rw [if_pos q1]
      · rw [if_neg q1]; exact he a j q q1
    · rw [if_neg q]
  obtain ⟨m1, m2, m3, m4, m5, m6, m7, m8, m9, m10, m11, m12, m13, m14, m15, m16, m17, m18, m19, m20, m21, m22, m23, m24, m25, m26, m27, m28⟩ := id h
  rw [e] at h4 h5 ⊢
  rw [hX] at h4 h5 ⊢
  exact ⟨m1, m2, m3, h4, h5, m6, m7, m8, m9, m10, m11, m12, m13, m14, m15, m16, m17, m18, m19, m20, m21, m22, m23, m24, m25, m26, m27, m28⟩
theorem MI.w_copy {M M' : Int → Int → Int} (h : MI M) (he : ∀ a j : Int, SC a j → ¬ (a = 88 ∨ a = 89 ∨ (a = 35 ∧ j = 79)) → M' a j = M a j) (h19 : CPS M') : MI M' := by
  obtain ⟨X, hX⟩ : ∃ X : Int → Int → Int, X = fun a j => if SC a j then (if a = 88 ∨ a = 89 ∨ (a = 35 ∧ j = 79) then M' a j else M a j) else M' a j := ⟨_, rfl⟩
  have e : M' = X := by
    funext a j
    rw [hX]
    show M' a j = if SC a j then (if a = 88 ∨ a = 89 ∨ (a = 35 ∧ j = 79) then M' a j else M a j) else M' a j
    by_cases q : SC a j
    · rw [if_pos q]
      by_cases q1 : a = 88 ∨ a = 89 ∨ (a = 35 ∧ j = 79)
      · rw [if_pos q1]
      · rw [if_neg q1]; exact he a j q q1
    · rw [if_neg q]
  obtain ⟨m1, m2, m3, m4, m5, m6, m7, m8, m9, m10, m11, m12, m13, m14, m15, m16, m17, m18, m19, m20, m21, m22, m23, m24, m25, m26, m27, m28⟩ := id h
  rw [e] at h19 ⊢
  rw [hX] at h19 ⊢
  exact ⟨m1, m2, m3, m4, m5, m6, m7, m8, m9, m10, m11, m12, m13, m14, m15, m16, m17, m18, h19, m20, m21, m22, m23, m24, m25, m26, m27, m28⟩
theorem MI.w_press {M M' : Int → Int → Int} (h : MI M) (he : ∀ a j : Int, SC a j → ¬ (a = 84 ∨ a = 85 ∨ a = 86 ∨ a = 87 ∨ (a = 35 ∧ j = 72)) → M' a j = M a j) (h13 : PRS M') (h14 : ∀ i : Int, 0 ≤ i → i < M' 35 72 → M' 84 i < M' 35 33 ∧ M' 85 i < M' 47 (M' 84 i)) (h15 : ∀ i k : Int, 0 ≤ i → i < k → k < M' 35 72 → ¬ (M' 84 i = M' 84 k ∧ M' 85 i = M' 85 k ∧ M' 86 i = M' 86 k)) : MI M' := by
  obtain ⟨X, hX⟩ : ∃ X : Int → Int → Int, X = fun a j => if SC a j then (if a = 84 ∨ a = 85 ∨ a = 86 ∨ a = 87 ∨ (a = 35 ∧ j = 72) then M' a j else M a j) else M' a j := ⟨_, rfl⟩
  have e : M' = X := by
    funext a j
    rw [hX]
    show M' a j = if SC a j then (if a = 84 ∨ a = 85 ∨ a = 86 ∨ a = 87 ∨ (a = 35 ∧ j = 72) then M' a j else M a j) else M' a j
    by_cases q : SC a j
    · rw [if_pos q]
      by_cases q1 : a = 84 ∨ a = 85 ∨ a = 86 ∨ a = 87 ∨ (a = 35 ∧ j = 72)
      · rw [if_pos q1]
      · rw [if_neg q1]; exact he a j q q1
    · rw [if_neg q]
  obtain ⟨m1, m2, m3, m4, m5, m6, m7, m8, m9, m10, m11, m12, m13, m14, m15, m16, m17, m18, m19, m20, m21, m22, m23, m24, m25, m26, m27, m28⟩ := id h
  rw [e] at h13 h14 h15 ⊢
  rw [hX] at h13 h14 h15 ⊢
  exact ⟨m1, m2, m3, m4, m5, m6, m7, m8, m9, m10, m11, m12, h13, h14, h15, m16, m17, m18, m19, m20, m21, m22, m23, m24, m25, m26, m27, m28⟩
theorem MI.w_set {M M' : Int → Int → Int} (h : MI M) (he : ∀ a j : Int, SC a j → ¬ (a = 82 ∨ a = 83 ∨ a = 84 ∨ a = 85 ∨ a = 86 ∨ a = 87 ∨ (a = 35 ∧ j = 72)) → M' a j = M a j) (h13 : PRS M') (h14 : ∀ i : Int, 0 ≤ i → i < M' 35 72 → M' 84 i < M' 35 33 ∧ M' 85 i < M' 47 (M' 84 i)) (h15 : ∀ i k : Int, 0 ≤ i → i < k → k < M' 35 72 → ¬ (M' 84 i = M' 84 k ∧ M' 85 i = M' 85 k ∧ M' 86 i = M' 86 k)) (h16 : IST M') (h17 : ∀ p : Int, M' 35 33 ≤ p → p < 12 → M' 82 p = 0) (h18 : PLB M') : MI M' := by
  obtain ⟨X, hX⟩ : ∃ X : Int → Int → Int, X = fun a j => if SC a j then (if a = 82 ∨ a = 83 ∨ a = 84 ∨ a = 85 ∨ a = 86 ∨ a = 87 ∨ (a = 35 ∧ j = 72) then M' a j else M a j) else M' a j := ⟨_, rfl⟩
  have e : M' = X := by
    funext a j
    rw [hX]
    show M' a j = if SC a j then (if a = 82 ∨ a = 83 ∨ a = 84 ∨ a = 85 ∨ a = 86 ∨ a = 87 ∨ (a = 35 ∧ j = 72) then M' a j else M a j) else M' a j
    by_cases q : SC a j
    · rw [if_pos q]
      by_cases q1 : a = 82 ∨ a = 83 ∨ a = 84 ∨ a = 85 ∨ a = 86 ∨ a = 87 ∨ (a = 35 ∧ j = 72)
      · rw [if_pos q1]
      · rw [if_neg q1]; exact he a j q q1
    · rw [if_neg q]
  obtain ⟨m1, m2, m3, m4, m5, m6, m7, m8, m9, m10, m11, m12, m13, m14, m15, m16, m17, m18, m19, m20, m21, m22, m23, m24, m25, m26, m27, m28⟩ := id h
  rw [e] at h13 h14 h15 h16 h17 h18 ⊢
  rw [hX] at h13 h14 h15 h16 h17 h18 ⊢
  exact ⟨m1, m2, m3, m4, m5, m6, m7, m8, m9, m10, m11, m12, h13, h14, h15, h16, h17, h18, m19, m20, m21, m22, m23, m24, m25, m26, m27, m28⟩
theorem MI.w_pgf {M M' : Int → Int → Int} (h : MI M) (he : ∀ a j : Int, SC a j → ¬ (a = 54 ∨ a = 55 ∨ a = 56 ∨ a = 57 ∨ a = 58) → M' a j = M a j) (h9 : CHK M') (h10 : LH M') : MI M' := by
  obtain ⟨X, hX⟩ : ∃ X : Int → Int → Int, X = fun a j => if SC a j then (if a = 54 ∨ a = 55 ∨ a = 56 ∨ a = 57 ∨ a = 58 then M' a j else M a j) else M' a j := ⟨_, rfl⟩
  have e : M' = X := by
    funext a j
    rw [hX]
    show M' a j = if SC a j then (if a = 54 ∨ a = 55 ∨ a = 56 ∨ a = 57 ∨ a = 58 then M' a j else M a j) else M' a j
    by_cases q : SC a j
    · rw [if_pos q]
      by_cases q1 : a = 54 ∨ a = 55 ∨ a = 56 ∨ a = 57 ∨ a = 58
      · rw [if_pos q1]
      · rw [if_neg q1]; exact he a j q q1
    · rw [if_neg q]
  obtain ⟨m1, m2, m3, m4, m5, m6, m7, m8, m9, m10, m11, m12, m13, m14, m15, m16, m17, m18, m19, m20, m21, m22, m23, m24, m25, m26, m27, m28⟩ := id h
  rw [e] at h9 h10 ⊢
  rw [hX] at h9 h10 ⊢
  exact ⟨m1, m2, m3, m4, m5, m6, m7, m8, h9, h10, m11, m12, m13, m14, m15, m16, m17, m18, m19, m20, m21, m22, m23, m24, m25, m26, m27, m28⟩
theorem MI.w_page {M M' : Int → Int → Int} (h : MI M) (he : ∀ a j : Int, SC a j → ¬ (a = 45 ∨ a = 46 ∨ a = 47 ∨ a = 48 ∨ a = 49 ∨ a = 50 ∨ a = 51 ∨ a = 52 ∨ a = 53 ∨ a = 54 ∨ a = 55 ∨ a = 56 ∨ a = 57 ∨ a = 58 ∨ (a = 35 ∧ j = 33)) → M' a j = M a j) (h6 : PGS M') (h7 : ∀ p : Int, 0 ≤ p → p < M' 35 33 → 0 ≤ M' 45 p ∧ M' 45 p < M' 35 6) (h8 : SLS M') (h9 : CHK M') (h10 : LH M') (h14 : ∀ i : Int, 0 ≤ i → i < M' 35 72 → M' 84 i < M' 35 33 ∧ M' 85 i < M' 47 (M' 84 i)) (h17 : ∀ p : Int, M' 35 33 ≤ p → p < 12 → M' 82 p = 0) (h19 : CPS M') (h20 : ERS M') (h21 : OTS M') : MI M' := by
  obtain ⟨X, hX⟩ : ∃ X : Int → Int → Int, X = fun a j => if SC a j then (if a = 45 ∨ a = 46 ∨ a = 47 ∨ a = 48 ∨ a = 49 ∨ a = 50 ∨ a = 51 ∨ a = 52 ∨ a = 53 ∨ a = 54 ∨ a = 55 ∨ a = 56 ∨ a = 57 ∨ a = 58 ∨ (a = 35 ∧ j = 33) then M' a j else M a j) else M' a j := ⟨_, rfl⟩
  have e : M' = X := by
    funext a j
    rw [hX]
    show M' a j = if SC a j then (if a = 45 ∨ a = 46 ∨ a = 47 ∨ a = 48 ∨ a = 49 ∨ a = 50 ∨ a = 51 ∨ a = 52 ∨ a = 53 ∨ a = 54 ∨ a = 55 ∨ a = 56 ∨ a = 57 ∨ a = 58 ∨ (a = 35 ∧ j = 33) then M' a j else M a j) else M' a j
    by_cases q : SC a j
    · rw [if_pos q]
      by_cases q1 : a = 45 ∨ a = 46 ∨ a = 47 ∨ a = 48 ∨ a = 49 ∨ a = 50 ∨ a = 51 ∨ a = 52 ∨ a = 53 ∨ a = 54 ∨ a = 55 ∨ a = 56 ∨ a = 57 ∨ a = 58 ∨ (a = 35 ∧ j = 33)
      · rw [if_pos q1]
      · rw [if_neg q1]; exact he a j q q1
    · rw [if_neg q]
  obtain ⟨m1, m2, m3, m4, m5, m6, m7, m8, m9, m10, m11, m12, m13, m14, m15, m16, m17, m18, m19, m20, m21, m22, m23, m24, m25, m26, m27, m28⟩ := id h
  rw [e] at h6 h7 h8 h9 h10 h14 h17 h19 h20 h21 ⊢
  rw [hX] at h6 h7 h8 h9 h10 h14 h17 h19 h20 h21 ⊢
  exact ⟨m1, m2, m3, m4, m5, h6, h7, h8, h9, h10, m11, m12, m13, h14, m15, m16, h17, m18, h19, h20, h21, m22, m23, m24, m25, m26, m27, m28⟩
theorem MI.k_plan {M M' : Int → Int → Int} {c : List Int} (h : MI M) (hp : plnC M) (hP : PLM M M' (M 35 16) c) : MI M' := by
  obtain ⟨p1, p2, p3, p4, p5, p6⟩ := hP
  have m5 := h.pls
  have m4 := h.ptx
  have hn := hp.1
  refine h.w_plan (fun a j q1 q2 => p1 a j (by omega) (by omega) (by omega) (by omega)) ?_ ?_
  · refine ⟨by rw [p5]; decide, by rw [p5]; decide, fun i u1 u2 => ?_⟩
    rw [p1 39 i (by omega) (by omega) (by omega) (by omega)]
    exact m4.2.2 i u1 u2
  · rw [p6]; omega
theorem MI.k_copy {M M' : Int → Int → Int} {p : Int} (h : MI M) (hp : isPlt M p ∧ M 35 79 ≠ 8) (hP : CPM M M' p) : MI M' := by
  obtain ⟨p1, p2, p3, p4⟩ := hP
  have m19 := h.cps
  have hn := hp.2
  have hg := hp.1.1
  refine h.w_copy (fun a j q1 q2 => p1 a j (by omega) (by omega) (by omega)) ?_
  refine ⟨by rw [p3]; omega, by rw [p3]; omega, fun i u1 u2 => ?_⟩
  rw [p3] at u2
  rw [p1 35 33 (by omega) (by omega) (by omega)]
  by_cases w : i = M 35 79
  · rw [w, p2]; exact hg
  · rw [p1 88 i (by omega) (by omega) (by omega)]
    exact m19.2.2 i u1 (by omega)
theorem psN_no {M : Int → Int → Int} {p n j : Int} : ∀ k : Nat, (k : Int) ≤ M 35 72 → psN M p n j k = M 35 72 → ∀ i : Int, 0 ≤ i → i < k → ¬ (M 84 i = p ∧ M 85 i = n ∧ M 86 i = j) := by
  intro k
  induction k with
  | zero => intro _ _ i u1 u2; omega
  | succ k ih =>
    intro h1 h2 i u1 u2
    unfold psN at h2
    by_cases w : M 84 k = p ∧ M 85 k = n ∧ M 86 k = j
    · rw [if_pos w] at h2; omega
    · rw [if_neg w] at h2
      by_cases v : i = k
      · rw [v]; exact w
      · exact ih (by omega) h2 i u1 (by omega)
theorem preM_e {M : Int → Int → Int} {p n j f i0 : Int} (hi0 : i0 = psN M p n j (M 35 72).toNat) : preM M p n j f 35 72 = M 35 72 + (if i0 = M 35 72 then 1 else 0) ∧ (∀ s : Int, preM M p n j f 84 s = if s = i0 then p else M 84 s) ∧ (∀ s : Int, preM M p n j f 85 s = if s = i0 then n else M 85 s) ∧ (∀ s : Int, preM M p n j f 86 s = if s = i0 then j else M 86 s) ∧ (∀ s : Int, preM M p n j f 87 s = if s = i0 then f else M 87 s) ∧ ∀ a s : Int, ¬ (84 ≤ a ∧ a ≤ 87) → ¬ (a = 35 ∧ s = 72) → preM M p n j f a s = M a s := by
  refine ⟨by rw [hi0]; unfold preM; exact s2_s, fun s => ?_, fun s => ?_, fun s => ?_, fun s => ?_, fun a s u1 u2 => ?_⟩
  · rw [hi0]; unfold preM; rw [s2_a (by decide), s2_a (by decide), s2_a (by decide), s2_a (by decide)]
    unfold set2; split <;> split <;> omega
  · rw [hi0]; unfold preM; rw [s2_a (by decide), s2_a (by decide), s2_a (by decide)]
    unfold set2; (repeat' split) <;> omega
  · rw [hi0]; unfold preM; rw [s2_a (by decide), s2_a (by decide)]
    unfold set2; (repeat' split) <;> omega
  · rw [hi0]; unfold preM; rw [s2_a (by decide)]
    unfold set2; (repeat' split) <;> omega
  · unfold preM set2
    rw [if_neg u2, if_neg (by omega), if_neg (by omega), if_neg (by omega), if_neg (by omega)]
theorem MI.k_press {M : Int → Int → Int} {p n j f : Int} (h : MI M) (hp : preC M p n j f) : MI (preM M p n j f) := by
  obtain ⟨m1, m2, m3, m4, m5, m6, m7, m8, m9, m10, m11, m12, m13, m14, m15, m16, m17, m18, m19, m20, m21, m22, m23, m24, m25, m26, m27, m28⟩ := id h
  obtain ⟨⟨⟨q1, q2⟩, q3⟩, ⟨-, q4, q5⟩, q6, q7, q8⟩ := hp
  have hpg := m6.2.2 p q1 q2
  have h47 : M 47 p ≤ 40 := hpg.2.2.2.2.2.1
  clear hpg
  have h33 := m6.2.1
  obtain ⟨b1, b2⟩ := psN_bd M p n j (M 35 72).toNat (by have := m13.1; omega)
  have hno := psN_no (M := M) (p := p) (n := n) (j := j) (M 35 72).toNat (by have := m13.1; omega)
  obtain ⟨i0, hi0⟩ : ∃ y : Int, y = psN M p n j (M 35 72).toNat := ⟨_, rfl⟩
  obtain ⟨e72, e84, e85, e86, e87, eo⟩ := preM_e (f := f) hi0
  rw [← hi0] at b1 b2 hno q8
  have hc : (M 35 72 : Int) = ((M 35 72).toNat : Int) := by have := m13.1; omega
  have hct : preM M p n j f 35 72 = M 35 72 ∧ i0 < M 35 72 ∨ preM M p n j f 35 72 = M 35 72 + 1 ∧ i0 = M 35 72 := by
    by_cases w : i0 = M 35 72
    · right; rw [e72, if_pos w]; exact ⟨rfl, w⟩
    · left; rw [e72, if_neg w]; exact ⟨by omega, by omega⟩
  have m13a := m13.1
  have m13b := m13.2.1
  refine h.w_press (fun a s u1 u2 => eo a s (by omega) (by omega)) ⟨by omega, by omega, fun i u1 u2 => ?_⟩ (fun i u1 u2 => ?_) (fun i k u1 u2 u3 => ?_)
  · rw [e84, e85, e86, e87]
    by_cases w : i = i0
    · rw [if_pos w, if_pos w, if_pos w, if_pos w]; omega
    · rw [if_neg w, if_neg w, if_neg w, if_neg w]
      exact m13.2.2 i u1 (by omega)
  · rw [eo 35 33 (by omega) (by omega), e84, e85]
    by_cases w : i = i0
    · rw [if_pos w, if_pos w, eo 47 p (by omega) (by omega)]; omega
    · rw [if_neg w, if_neg w, eo 47 _ (by omega) (by omega)]
      exact m14 i u1 (by omega)
  · rw [e84, e84, e85, e85, e86, e86]
    by_cases w : i = i0
    · rw [if_pos w, if_pos w, if_pos w, if_neg (by omega), if_neg (by omega), if_neg (by omega)]
      have b3 := b2.resolve_left (by omega)
      have := m15 i k u1 u2 (by omega)
      rw [w, b3.2.1, b3.2.2.1, b3.2.2.2] at this
      exact this
    · rw [if_neg w, if_neg w, if_neg w]
      by_cases v : k = i0
      · rw [if_pos v, if_pos v, if_pos v]
        by_cases x : i0 = M 35 72
        · exact hno x i u1 (by omega)
        · have b3 := b2.resolve_left x
          have := m15 i k u1 u2 (by omega)
          rw [v, b3.2.1, b3.2.2.1, b3.2.2.2] at this
          exact this
      · rw [if_neg v, if_neg v, if_neg v]
        exact m15 i k u1 u2 (by omega)
theorem cmM_ent {p : Int} {m : Int → Int → Int} : ∀ k : Nat, ∃ σ : Int → Int, (∀ i : Int, 0 ≤ i → i < (cmM p k m).1 → 0 ≤ σ i ∧ σ i < k ∧ ∀ a : Int, 84 ≤ a → a ≤ 87 → (cmM p k m).2 a i = m a (σ i)) ∧ ∀ i j : Int, 0 ≤ i → i < j → j < (cmM p k m).1 → σ i < σ j := by
  intro k
  induction k with
  | zero => exact ⟨id, fun i u1 u2 => absurd u2 (by show ¬ i < 0; omega), fun i j u1 u2 u3 => absurd u3 (by show ¬ j < 0; omega)⟩
  | succ k ih =>
    obtain ⟨σ, s1, s2⟩ := ih
    obtain ⟨f1, f2, f3⟩ := cmM_fr p m k
    by_cases w : (cmM p k m).2 84 k = p
    · have e : cmM p (k + 1) m = cmM p k m := by rw [cmM, if_pos w]
      rw [e]
      exact ⟨σ, fun i u1 u2 => ⟨(s1 i u1 u2).1, by have := (s1 i u1 u2).2.1; omega, (s1 i u1 u2).2.2⟩, s2⟩
    · obtain ⟨c, hc⟩ : ∃ y : Int, y = (cmM p k m).1 := ⟨_, rfl⟩
      obtain ⟨m2, hm2⟩ : ∃ y : Int → Int → Int, y = (cmM p k m).2 := ⟨_, rfl⟩
      have e : cmM p (k + 1) m = (c + 1, set2 (set2 (set2 (set2 m2 84 c (m2 84 k)) 85 c (m2 85 k)) 86 c (m2 86 k)) 87 c (m2 87 k)) := by rw [cmM, if_neg w, ← hc, ← hm2]
      rw [e]
      rw [← hc] at s1 s2 f1 f2 f3
      rw [← hm2] at s1 f3
      have em : ∀ a : Int, m2 a k = m a k := fun a => f3 a k (by omega)
      refine ⟨fun i => if i = c then k else σ i, fun i u1 u2 => ?_, fun i j u1 u2 u3 => ?_⟩
      · have u4 : i < c + 1 := u2
        dsimp only
        by_cases v : i = c
        · rw [if_pos v]
          refine ⟨by omega, by omega, fun a w1 w2 => ?_⟩
          rw [v]
          rcases (show a = 84 ∨ a = 85 ∨ a = 86 ∨ a = 87 by omega) with rfl | rfl | rfl | rfl
          · show set2 (set2 (set2 (set2 m2 84 c (m2 84 k)) 85 c (m2 85 k)) 86 c (m2 86 k)) 87 c (m2 87 k) 84 c = _
            rw [s2_a (by decide), s2_a (by decide), s2_a (by decide), s2_s]; exact em _
          · show set2 (set2 (set2 (set2 m2 84 c (m2 84 k)) 85 c (m2 85 k)) 86 c (m2 86 k)) 87 c (m2 87 k) 85 c = _
            rw [s2_a (by decide), s2_a (by decide), s2_s]; exact em _
          · show set2 (set2 (set2 (set2 m2 84 c (m2 84 k)) 85 c (m2 85 k)) 86 c (m2 86 k)) 87 c (m2 87 k) 86 c = _
            rw [s2_a (by decide), s2_s]; exact em _
          · show set2 (set2 (set2 (set2 m2 84 c (m2 84 k)) 85 c (m2 85 k)) 86 c (m2 86 k)) 87 c (m2 87 k) 87 c = _
            rw [s2_s]; exact em _
        · rw [if_neg v]
          obtain ⟨t1, t2, t3⟩ := s1 i u1 (by omega)
          refine ⟨t1, by omega, fun a w1 w2 => ?_⟩
          show set2 (set2 (set2 (set2 m2 84 c (m2 84 k)) 85 c (m2 85 k)) 86 c (m2 86 k)) 87 c (m2 87 k) a i = _
          rw [s2_k v, s2_k v, s2_k v, s2_k v]
          exact t3 a w1 w2
      · have u4 : j < c + 1 := u3
        show (if i = c then (k : Int) else σ i) < if j = c then (k : Int) else σ j
        rw [if_neg (by omega)]
        by_cases v : j = c
        · rw [if_pos v]; exact (s1 i u1 (by omega)).2.1
        · rw [if_neg v]; exact s2 i j u1 u2 (by omega)
theorem MI.k_set {M M' : Int → Int → Int} {p : Int} (h : MI M) (hp : isPg M p) (hP : SETM M M' p) : MI M' := by
  obtain ⟨m1, m2, m3, m4, m5, m6, m7, m8, m9, m10, m11, m12, m13, m14, m15, m16, m17, m18, m19, m20, m21, m22, m23, m24, m25, m26, m27, m28⟩ := id h
  obtain ⟨m, a1, a2, a3, rfl⟩ := hP
  have hPg := m6.2.2 p hp.1 hp.2
  have hb := fun n (q : 0 ≤ n ∧ n < M 47 p) => keptV_bd hPg (numQ_bd (q := knw M) hPg m8 q)
  have h47 : M 47 p ≤ 40 := hPg.2.2.2.2.2.1
  clear hPg
  obtain ⟨σ, s1, s2⟩ := cmM_ent (p := p) (m := m) (M 35 72).toNat
  obtain ⟨f1, f2, f3⟩ := cmM_fr p m (M 35 72).toNat
  obtain ⟨c, hc⟩ : ∃ y : Int, y = (cmM p (M 35 72).toNat m).1 := ⟨_, rfl⟩
  obtain ⟨mm, hmm⟩ : ∃ y : Int → Int → Int, y = (cmM p (M 35 72).toNat m).2 := ⟨_, rfl⟩
  rw [← hc] at s1 s2 f1 f2 f3 ⊢
  rw [← hmm] at s1 f3 ⊢
  have m13a := m13.1
  have m13b := m13.2.1
  have m13c := m13.2.2
  have h33 := m6.2.1
  have e72 : set2 mm 35 72 c 35 72 = c := s2_s
  have eo : ∀ a j : Int, ¬ (a = 35 ∧ j = 72) → (a < 84 ∨ 87 < a) → set2 mm 35 72 c a j = m a j := fun a j u1 u2 => by
    unfold set2
    rw [if_neg u1]
    exact f3 a j (by omega)
  have ee : ∀ a i : Int, 84 ≤ a → a ≤ 87 → 0 ≤ i → i < c → set2 mm 35 72 c a i = M a (σ i) := fun a i u1 u2 u3 u4 => by
    rw [s2_a (by omega), (s1 i u3 u4).2.2 a u1 u2]
    exact a1 a _ (by omega) (by omega) (by omega)
  have sb : ∀ i : Int, 0 ≤ i → i < c → 0 ≤ σ i ∧ σ i < M 35 72 := fun i u1 u2 => by have := s1 i u1 u2; omega
  refine h.w_set (fun a j u1 u2 => ?_) ⟨by rw [e72]; omega, by rw [e72]; omega, fun i u1 u2 => ?_⟩ (fun i u1 u2 => ?_) (fun i k u1 u2 u3 => ?_) (fun q u1 u2 => ?_) (fun q u1 u2 => ?_) (fun i u1 u2 => ?_)
  · rw [eo a j (by omega) (by omega)]
    exact a1 a j (by omega) (by omega) (by omega)
  · rw [e72] at u2
    rw [ee 84 i (by decide) (by decide) u1 (by omega), ee 85 i (by decide) (by decide) u1 (by omega), ee 86 i (by decide) (by decide) u1 (by omega), ee 87 i (by decide) (by decide) u1 (by omega)]
    have := sb i u1 (by omega)
    exact m13c (σ i) this.1 (by omega)
  · rw [e72] at u2
    rw [ee 84 i (by decide) (by decide) u1 u2, ee 85 i (by decide) (by decide) u1 u2, eo 35 33 (by omega) (by omega), eo 47 _ (by omega) (by omega), a1 35 33 (by omega) (by omega) (by omega), a1 47 _ (by omega) (by omega) (by omega)]
    have := sb i u1 u2
    exact m14 (σ i) this.1 this.2
  · rw [e72] at u3
    rw [ee 84 i (by decide) (by decide) u1 (by omega), ee 85 i (by decide) (by decide) u1 (by omega), ee 86 i (by decide) (by decide) u1 (by omega), ee 84 k (by decide) (by decide) (by omega) u3, ee 85 k (by decide) (by decide) (by omega) u3, ee 86 k (by decide) (by decide) (by omega) u3]
    exact m15 (σ i) (σ k) (sb i u1 (by omega)).1 (s2 i k u1 u2 u3) (sb k (by omega) u3).2
  · rw [eo 82 q (by omega) (by omega)]
    by_cases w : q = p
    · rw [w, a2]; decide
    · rw [a1 82 q (by omega) (by omega) (by omega)]; exact m16 q u1 u2
  · rw [eo 35 33 (by omega) (by omega), a1 35 33 (by omega) (by omega) (by omega)] at u1
    rw [eo 82 q (by omega) (by omega), a1 82 q (by omega) (by omega) (by omega)]
    exact m17 q u1 u2
  · rw [eo 83 i (by omega) (by omega)]
    by_cases w : 40 * p ≤ i ∧ i < 40 * p + M 47 p
    · have := a3 (i - 40 * p) (by omega) (by omega)
      rw [show 40 * p + (i - 40 * p) = i by omega] at this
      rw [this]
      exact hb (i - 40 * p) ⟨by omega, by omega⟩
    · rw [a1 83 i (by omega) (by omega) (by omega)]; exact m18 i u1 u2
theorem MI.k_pgf {M M' : Int → Int → Int} (h : MI M) (hz : Z47 M) (hP : PGF M M') : MI M' ∧ Z47 M' := by
  have m6 := h.pgs
  have m9 := h.chk
  have m10 := h.lh
  have hk : ∀ a p n : Int, 54 ≤ a → a ≤ 58 → 0 ≤ p → p < 12 → 0 ≤ n → n < M' 47 p → M' a (40 * p + n) = M a (40 * p + n) ∧ n < M 47 p := fun a p n u1 u2 u3 u4 u5 u6 => by
    rw [hP 47 p (by omega) (by omega) (by omega) (by omega)] at u6
    by_cases w : p < M 35 33
    · have hg : M 47 p ≤ 40 := (m6.2.2 p u3 (by omega)).2.2.2.2.2.1
      exact ⟨hP a _ (by omega) (by omega) (by omega) (by omega), u6⟩
    · have := hz p (by omega) u4
      omega
  refine ⟨h.w_pgf (fun a j u1 u2 => hP a j (by omega) (by omega) (by omega) (by omega)) (fun p n u1 u2 u3 u4 => ?_) (fun p n u1 u2 u3 u4 => ?_), fun p u1 u2 => ?_⟩
  · have w1 := hk 56 p n (by decide) (by decide) u1 u2 u3 u4
    rw [w1.1, (hk 57 p n (by decide) (by decide) u1 u2 u3 u4).1]
    exact m9 p n u1 u2 u3 w1.2
  · have w1 := hk 54 p n (by decide) (by decide) u1 u2 u3 u4
    rw [w1.1, (hk 55 p n (by decide) (by decide) u1 u2 u3 u4).1]
    exact m10 p n u1 u2 u3 w1.2
  · rw [hP 35 33 (by omega) (by omega) (by omega) (by omega)] at u1
    rw [hP 47 p (by omega) (by omega) (by omega) (by omega)]
    exact hz p u1 u2
set_option maxHeartbeats 4000000 in
theorem MI.k_page {M M' : Int → Int → Int} {T : Int → Int} {L f w n t : Int} (h : MI M) (hz : Z47 M) (hL : 0 ≤ L) (hfa : (fauP T L).1 = -1) (hc1 : pgC1 M f w n t) (hc2 : pgC2 T L w n) (hc3 : pgC3 T L w n) (hP : PGM M M' T L f w n) : MI M' ∧ Z47 M' := by
  obtain ⟨m1, m2, m3, m4, m5, m6, m7, m8, m9, m10, m11, m12, m13, m14, m15, m16, m17, m18, m19, m20, m21, m22, m23, m24, m25, m26, m27, m28⟩ := id h
  obtain ⟨p1, p33, p45, p46, p47, p48, p49, p50, p51, p52, p53, prow⟩ := hP
  obtain ⟨c1, c2, c3, c4, c5⟩ := hc1
  obtain ⟨a, ha⟩ : ∃ y : Int, y = wA T L 97 := ⟨_, rfl⟩
  obtain ⟨o, ho⟩ : ∃ y : Int, y = wA T L 111 := ⟨_, rfl⟩
  obtain ⟨pl, hpl⟩ : ∃ y : Int, y = wA T L 112 := ⟨_, rfl⟩
  obtain ⟨cr, hcr⟩ : ∃ y : Int, y = wA T L 99 := ⟨_, rfl⟩
  obtain ⟨m, hm⟩ : ∃ y : Int, y = wA T L 109 := ⟨_, rfl⟩
  obtain ⟨hf, hhf⟩ : ∃ y : Int, y = wA T L 102 := ⟨_, rfl⟩
  unfold pgC2 at hc2
  unfold pgC3 at hc3
  rw [← ha] at p48 hc2 hc3 prow
  rw [← ho] at p49 hc2
  rw [← hpl] at p50 hc2
  rw [← hcr] at p51 hc2
  rw [← hm] at p52 hc2 hc3 prow
  rw [← hhf] at p53 hc2
  obtain ⟨d1, d2, d3, d4, d5, d6, d7⟩ := hc2
  obtain ⟨N, hN⟩ : ∃ y : Int, y = M 35 33 := ⟨_, rfl⟩
  have m6a := m6.1
  have m6b := m6.2.1
  rw [← hN] at p1 p33 p45 p46 p47 p48 p49 p50 p51 p52 p53 prow c5 m6a m6b
  have m6c : ∀ p : Int, 0 ≤ p → p < N → PG M p := fun p u1 u2 => m6.2.2 p u1 (by omega)
  have e47 : ∀ p : Int, p ≠ N → M' 47 p = M 47 p := fun p u => p1 47 p (by omega) (by omega) (by omega) (by omega) (by omega)
  have n47 : ∀ p : Int, 0 ≤ p → p < N → M 47 p ≤ 40 := fun p u1 u2 => (m6c p u1 u2).2.2.2.2.2.1
  have hrow : ∀ r p k : Int, 54 ≤ r → r ≤ 58 → 0 ≤ p → p < 12 → 0 ≤ k → k < M' 47 p → p ≠ N → M' r (40 * p + k) = M r (40 * p + k) ∧ k < M 47 p := fun r p k u1 u2 u3 u4 u5 u6 u7 => by
    rw [e47 p u7] at u6
    by_cases v : p < N
    · have := n47 p u3 v
      exact ⟨p1 r _ (by omega) (by omega) (by omega) (by omega) (by omega), u6⟩
    · have := hz p (by omega) u4
      omega
  have hsml : ∀ k : Int, 0 ≤ k → k < n → InI k ∧ InI (k / m) ∧ InI (w + k * a) := fun k u1 u2 => by
    have h1 : 0 ≤ k * a := Int.mul_nonneg u1 (by omega)
    have h2 : k * a ≤ 39 * 50 := Int.mul_le_mul (by omega) (by omega) (by omega) (by omega)
    have h3 := Int.ediv_nonneg u1 (by omega : 0 ≤ m)
    have h4 := Int.ediv_le_self m u1
    exact ⟨⟨by omega, by omega⟩, ⟨by omega, by omega⟩, ⟨by omega, by omega⟩⟩
  have hwb : ∀ c k : Int, 0 ≤ k → k < n → InI (wB T L a m w c k) := fun c k u1 u2 => by
    obtain ⟨s1, s2, s3⟩ := hsml k u1 u2
    exact wB_in c s1 s2 s3 hL hfa
  have e3 : ∀ x j : Int, 36 ≤ x → x ≤ 38 → M' x j = M x j := fun x j u1 u2 => p1 x j (by omega) (by omega) (by omega) (by omega) (by omega)
  refine ⟨h.w_page (fun x j u1 u2 => p1 x j (by omega) (by omega) (by omega) (by omega) (by omega)) ?_ ?_ ?_ ?_ ?_ ?_ ?_ ?_ ?_ ?_, fun p u1 u2 => ?_⟩
  · refine ⟨by omega, by omega, fun p u1 u2 => ?_⟩
    rw [p33] at u2
    by_cases v : p = N
    · unfold PG FN
      rw [v, p45, p46, p47, p48, p49, p50, p51, p52, p53, e3 36 _ (by decide) (by decide), e3 37 _ (by decide) (by decide), e3 38 _ (by decide) (by decide)]
      have hfn := m3.2.2 f c1.1 c1.2
      exact ⟨by omega, by omega, hfn, by omega, by omega, by omega, by omega, by omega, by omega, by omega, by omega, by omega, by omega, by omega, by omega, by omega, by omega, by omega, d7⟩
    · have g := m6c p u1 (by omega)
      have ex : ∀ x : Int, 45 ≤ x → x ≤ 53 → M' x p = M x p := fun x q1 q2 => p1 x p (by omega) (by omega) (by omega) (by omega) (by omega)
      unfold PG FN
      rw [ex 45 (by decide) (by decide), ex 46 (by decide) (by decide), ex 47 (by decide) (by decide), ex 48 (by decide) (by decide), ex 49 (by decide) (by decide), ex 50 (by decide) (by decide), ex 51 (by decide) (by decide), ex 52 (by decide) (by decide), ex 53 (by decide) (by decide), e3 36 _ (by decide) (by decide), e3 37 _ (by decide) (by decide), e3 38 _ (by decide) (by decide)]
      exact g
  · intro p u1 u2
    rw [p33] at u2
    rw [p1 35 6 (by omega) (by omega) (by omega) (by omega) (by omega)]
    by_cases v : p = N
    · rw [v, p45]; omega
    · rw [p1 45 p (by omega) (by omega) (by omega) (by omega) (by omega)]
      exact m7 p u1 (by omega)
  · have es : ∀ x j : Int, 63 ≤ x → x ≤ 68 → M' x j = M x j := fun x j q1 q2 => p1 x j (by omega) (by omega) (by omega) (by omega) (by omega)
    refine ⟨by rw [p1 35 45 (by omega) (by omega) (by omega) (by omega) (by omega)]; exact m8.1, by rw [p1 35 45 (by omega) (by omega) (by omega) (by omega) (by omega)]; exact m8.2.1, fun s u1 u2 => ?_⟩
    rw [p1 35 45 (by omega) (by omega) (by omega) (by omega) (by omega)] at u2
    have g := m8.2.2 s u1 u2
    have gn : M 63 s ≤ M 35 33 - 1 := g.2.1
    unfold SL
    rw [es 63 s (by decide) (by decide), es 64 s (by decide) (by decide), es 65 s (by decide) (by decide), es 66 s (by decide) (by decide), es 67 s (by decide) (by decide), es 68 s (by decide) (by decide), p33, p1 47 (M 63 s) (by omega) (by omega) (by omega) (by omega) (by omega), p1 52 (M 63 s) (by omega) (by omega) (by omega) (by omega) (by omega), p1 49 (M 63 s) (by omega) (by omega) (by omega) (by omega) (by omega), p1 35 0 (by omega) (by omega) (by omega) (by omega) (by omega)]
    exact ⟨g.1, by omega, g.2.2⟩
  · intro p k u1 u2 u3 u4
    by_cases v : p = N
    · rw [v, p47] at u4
      obtain ⟨r1, r2, r3, r4, r5⟩ := prow k u3 u4
      rw [v, r3, r4]
      refine ⟨hwb 107 k u3 u4, ?_⟩
      have := hwb 116 k u3 u4
      unfold mx0
      split
      · exact this
      · exact ⟨by decide, by decide⟩
    · have w1 := hrow 56 p k (by decide) (by decide) u1 u2 u3 u4 v
      rw [w1.1, (hrow 57 p k (by decide) (by decide) u1 u2 u3 u4 v).1]
      exact m9 p k u1 u2 u3 w1.2
  · intro p k u1 u2 u3 u4
    by_cases v : p = N
    · rw [v, p47] at u4
      obtain ⟨r1, r2, r3, r4, r5⟩ := prow k u3 u4
      rw [v, r1, r2]
      exact ⟨hwb 104 k u3 u4, hwb 115 k u3 u4⟩
    · have w1 := hrow 54 p k (by decide) (by decide) u1 u2 u3 u4 v
      rw [w1.1, (hrow 55 p k (by decide) (by decide) u1 u2 u3 u4 v).1]
      exact m10 p k u1 u2 u3 w1.2
  · intro i u1 u2
    rw [p1 35 72 (by omega) (by omega) (by omega) (by omega) (by omega)] at u2
    have g := m14 i u1 u2
    rw [p1 84 i (by omega) (by omega) (by omega) (by omega) (by omega), p1 85 i (by omega) (by omega) (by omega) (by omega) (by omega), p33, e47 _ (by omega)]
    exact ⟨by omega, g.2⟩
  · intro p u1 u2
    rw [p33] at u1
    rw [p1 82 p (by omega) (by omega) (by omega) (by omega) (by omega)]
    exact m17 p (by omega) u2
  · refine ⟨by rw [p1 35 79 (by omega) (by omega) (by omega) (by omega) (by omega)]; exact m19.1, by rw [p1 35 79 (by omega) (by omega) (by omega) (by omega) (by omega)]; exact m19.2.1, fun s u1 u2 => ?_⟩
    rw [p1 35 79 (by omega) (by omega) (by omega) (by omega) (by omega)] at u2
    rw [p1 88 s (by omega) (by omega) (by omega) (by omega) (by omega), p33]
    have := m19.2.2 s u1 u2
    omega
  · refine ⟨by rw [p1 35 80 (by omega) (by omega) (by omega) (by omega) (by omega)]; exact m20.1, by rw [p1 35 80 (by omega) (by omega) (by omega) (by omega) (by omega)]; exact m20.2.1, fun s u1 u2 => ?_⟩
    rw [p1 35 80 (by omega) (by omega) (by omega) (by omega) (by omega)] at u2
    have g := m20.2.2 s u1 u2
    have gn : M 90 s ≤ M 35 33 - 1 := g.2.1
    rw [p1 90 s (by omega) (by omega) (by omega) (by omega) (by omega), p1 91 s (by omega) (by omega) (by omega) (by omega) (by omega), p33, e47 _ (by omega)]
    exact ⟨g.1, by omega, g.2.2⟩
  · refine ⟨by rw [p1 35 84 (by omega) (by omega) (by omega) (by omega) (by omega)]; exact m21.1, by rw [p1 35 84 (by omega) (by omega) (by omega) (by omega) (by omega)]; exact m21.2.1, fun s u1 u2 => ?_⟩
    rw [p1 35 84 (by omega) (by omega) (by omega) (by omega) (by omega)] at u2
    rw [p1 94 s (by omega) (by omega) (by omega) (by omega) (by omega), p33]
    have := m21.2.2 s u1 u2
    omega
  · rw [p33] at u1
    rw [e47 p (by omega)]
    exact hz p (by omega) u2
/-! feed: the house's tape and the model's -/
theorem feedM_add (B : Int → Int) (M : Int → Int → Int) (m : Nat) : ∀ k : Nat, feedM B M (m + k) = feedM (fun i => B (m + i)) (feedM B M m) k := by
  intro k
  induction k with
  | zero => rfl
  | succ k ih =>
    show feedM B M (m + k + 1) = _
    rw [feedM, feedM, ← ih]
    have e : ((m + k : Nat) : Int) = (m : Int) + (k : Int) := by omega
    rw [e]
theorem feedM_cg {B B' : Int → Int} {M : Int → Int → Int} : ∀ k : Nat, (∀ i : Int, 0 ≤ i → i < k → B i = B' i) → feedM B M k = feedM B' M k := by
  intro k
  induction k with
  | zero => intro _; rfl
  | succ k ih =>
    intro h
    unfold feedM
    rw [ih (fun i q1 q2 => h i q1 (by omega)), h k (by omega) (by omega)]
theorem nzc_add (B : Int → Int) (m : Nat) : ∀ k : Nat, nzc B (m + k) = nzc B m + nzc (fun i => B (m + i)) k := by
  intro k
  induction k with
  | zero => show nzc B m = nzc B m + 0; omega
  | succ k ih =>
    show nzc B (m + k + 1) = _
    rw [nzc, nzc, ih]
    have e : ((m + k : Nat) : Int) = (m : Int) + (k : Int) := by omega
    rw [e]
    omega
theorem nzc_cg {B B' : Int → Int} : ∀ k : Nat, (∀ i : Int, 0 ≤ i → i < k → B i = B' i) → nzc B k = nzc B' k := by
  intro k
  induction k with
  | zero => intro _; rfl
  | succ k ih =>
    intro h
    unfold nzc
    rw [ih (fun i q1 q2 => h i q1 (by omega)), h k (by omega) (by omega)]
theorem feed_5 (a b c d e : Int) (M : Int → Int → Int) : feedM (byteK a b c d e) M 20 = feedM (byteI e) (feedM (byteI d) (feedM (byteI c) (feedM (byteI b) (feedM (byteI a) M 4) 4) 4) 4) 4 ∧ nzc (byteK a b c d e) 20 = nzc (byteI a) 4 + nzc (byteI b) 4 + nzc (byteI c) 4 + nzc (byteI d) 4 + nzc (byteI e) 4 := by
  have k0 : ∀ i : Int, 0 ≤ i → i < 4 → byteK a b c d e i = byteI a i := fun i q1 q2 => by rw [byteK_0 (by omega), show i % 4 = i by omega]
  have k1 : ∀ i : Int, 0 ≤ i → i < 4 → byteK a b c d e (((4 : Nat) : Int) + i) = byteI b i := fun i q1 q2 => by rw [byteK_1 (by omega) (by omega), show (((4 : Nat) : Int) + i) % 4 = i by omega]
  have k2 : ∀ i : Int, 0 ≤ i → i < 4 → byteK a b c d e (((8 : Nat) : Int) + i) = byteI c i := fun i q1 q2 => by rw [byteK_2 (by omega) (by omega) (by omega), show (((8 : Nat) : Int) + i) % 4 = i by omega]
  have k3 : ∀ i : Int, 0 ≤ i → i < 4 → byteK a b c d e (((12 : Nat) : Int) + i) = byteI d i := fun i q1 q2 => by rw [byteK_3 (by omega) (by omega) (by omega) (by omega), show (((12 : Nat) : Int) + i) % 4 = i by omega]
  have k4 : ∀ i : Int, 0 ≤ i → i < 4 → byteK a b c d e (((16 : Nat) : Int) + i) = byteI e i := fun i q1 q2 => by rw [byteK_4 (by omega) (by omega) (by omega) (by omega), show (((16 : Nat) : Int) + i) % 4 = i by omega]
  have f4 : feedM (byteK a b c d e) M 4 = feedM (byteI a) M 4 := feedM_cg 4 k0
  have f8 : feedM (byteK a b c d e) M 8 = feedM (fun i => byteK a b c d e (((4 : Nat) : Int) + i)) (feedM (byteK a b c d e) M 4) 4 := feedM_add _ M 4 4
  have f12 : feedM (byteK a b c d e) M 12 = feedM (fun i => byteK a b c d e (((8 : Nat) : Int) + i)) (feedM (byteK a b c d e) M 8) 4 := feedM_add _ M 8 4
  have f16 : feedM (byteK a b c d e) M 16 = feedM (fun i => byteK a b c d e (((12 : Nat) : Int) + i)) (feedM (byteK a b c d e) M 12) 4 := feedM_add _ M 12 4
  have f20 : feedM (byteK a b c d e) M 20 = feedM (fun i => byteK a b c d e (((16 : Nat) : Int) + i)) (feedM (byteK a b c d e) M 16) 4 := feedM_add _ M 16 4
  have n4 : nzc (byteK a b c d e) 4 = nzc (byteI a) 4 := nzc_cg 4 k0
  have n8 : nzc (byteK a b c d e) 8 = nzc (byteK a b c d e) 4 + nzc (fun i => byteK a b c d e (((4 : Nat) : Int) + i)) 4 := nzc_add _ 4 4
  have n12 : nzc (byteK a b c d e) 12 = nzc (byteK a b c d e) 8 + nzc (fun i => byteK a b c d e (((8 : Nat) : Int) + i)) 4 := nzc_add _ 8 4
  have n16 : nzc (byteK a b c d e) 16 = nzc (byteK a b c d e) 12 + nzc (fun i => byteK a b c d e (((12 : Nat) : Int) + i)) 4 := nzc_add _ 12 4
  have n20 : nzc (byteK a b c d e) 20 = nzc (byteK a b c d e) 16 + nzc (fun i => byteK a b c d e (((16 : Nat) : Int) + i)) 4 := nzc_add _ 16 4
  exact ⟨by rw [f20, f16, f12, f8, f4, feedM_cg 4 k4, feedM_cg 4 k3, feedM_cg 4 k2, feedM_cg 4 k1], by rw [n20, n16, n12, n8, n4, nzc_cg 4 k4, nzc_cg 4 k3, nzc_cg 4 k2, nzc_cg 4 k1]⟩
theorem feed_R {B : Int → Int} {M m : Int → Int → Int} (h1 : m 5 1 = M 35 11) (h2 : m 6 = M 39) : ∀ k : Nat, fdP 5 6 B m k 5 1 = feedM B M k 35 11 ∧ fdP 5 6 B m k 6 = feedM B M k 39 := by
  intro k
  induction k with
  | zero => exact ⟨h1, h2⟩
  | succ k ih =>
    obtain ⟨i1, i2⟩ := ih
    unfold fdP feedM
    by_cases w : B k = 0
    · rw [if_pos w, if_pos w]; exact ⟨i1, i2⟩
    · rw [if_neg w, if_neg w, s2_s, s2_s, i1]
      refine ⟨rfl, funext fun j => ?_⟩
      rw [s2_a (by decide : (6 : Int) ≠ 5), s2_a (by decide : (39 : Int) ≠ 35)]
      by_cases v : j = feedM B M k 35 11
      · rw [v, s2_s, s2_s]
      · rw [s2_k v, s2_k v, i2]

end KEEPW
