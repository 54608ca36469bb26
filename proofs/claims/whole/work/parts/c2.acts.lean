section STEPS
theorem leftV_cg {M M' : Int → Int → Int} {x y : Int} (h65 : M' 35 65 = M 35 65) (h : ∀ r s : Int, 77 ≤ r → r ≤ 81 → M' r s = M r s) : leftV M' x y = leftV M x y := by
  unfold leftV leftW
  rw [h65, lsN_cg _ (fun s _ _ => ⟨h 77 s (by decide) (by decide), h 78 s (by decide) (by decide)⟩), h 79 _ (by decide) (by decide), h 80 _ (by decide) (by decide), h 81 _ (by decide) (by decide)]
theorem INV.numd {kd : Int → Nat} {ln : Int → Int} {mem m2 : Int → Int → Int} {sz : Nat} {tg : Int → Int} (hI : INV kd ln mem sz tg) (hR2 : HR m2) (hS2 : SR m2) (hB : EB m2) (hMI : MI m2) (hc : ∀ a j : Int, (27 ≤ a ∧ a ≤ 34) ∨ (101 ≤ a ∧ a < sz) → m2 a j = mem a j) (he : ∀ x j : Int, SC x j → x ≠ 39 → ¬ (77 ≤ x ∧ x ≤ 81) → ¬ (x = 35 ∧ (j = 0 ∨ j = 2 ∨ j = 46 ∨ j = 89 ∨ j = 65 ∨ j = 11)) → m2 x j = mem x j) (hRN : RN m2 m2) : INV kd ln m2 sz tg := by
  obtain ⟨⟨i1, i2, i3, i4, i5, i6⟩, -, hG⟩ := hI
  exact ⟨⟨i1, i2, hS2, hR2, i5, hB⟩, hMI, hG.nums i5 hc he hRN⟩
theorem MD_as {kd : Int → Nat} {ln : Int → Int} {mem m1 : Int → Int → Int} {sz : Nat} {tg : Int → Int} {d : Int} {v1 : Int} (hI : INV kd ln mem sz tg) (h1 : (v1 = 1 ∧ HR m1 ∧ ((True ↔ (-1 ≤ d ∧ d ≤ mem 35 0)) ∧ m1 = (if (-1 ≤ d ∧ d ≤ mem 35 0) then set2 mem 3 1 d else mem))) ∨ (v1 = 0 ∧ HR m1 ∧ ((False ↔ (-1 ≤ d ∧ d ≤ mem 35 0)) ∧ m1 = (if (-1 ≤ d ∧ d ≤ mem 35 0) then set2 mem 3 1 d else mem)))) : EQS mem m1 ∧ MI m1 ∧ SR m1 := by
  refine MI.aft hI (fun r0 k0 q1 q2 => ?_)
  have h3 : m1 = if (-1 ≤ d ∧ d ≤ mem 35 0) then set2 mem 3 1 d else mem := by
    rcases h1 with ⟨-, -, -, w⟩ | ⟨-, -, -, w⟩ <;> exact w
  rw [h3]
  split
  · exact s2_a (by omega)
  · rfl
theorem ST_as {kd : Int → Nat} {ln : Int → Int} {mem m1 m2 : Int → Int → Int} {sz : Nat} {tg : Int → Int} {d : Int} {v1 v2 : Int} (hI : INV kd ln mem sz tg) (hz : Z47 mem) (h1 : (v1 = 1 ∧ HR m1 ∧ ((True ↔ (-1 ≤ d ∧ d ≤ mem 35 0)) ∧ m1 = (if (-1 ≤ d ∧ d ≤ mem 35 0) then set2 mem 3 1 d else mem))) ∨ (v1 = 0 ∧ HR m1 ∧ ((False ↔ (-1 ≤ d ∧ d ≤ mem 35 0)) ∧ m1 = (if (-1 ≤ d ∧ d ≤ mem 35 0) then set2 mem 3 1 d else mem)))) (h2 : (v2 = 1 ∧ SR m2 ∧ ((True ↔ (-1 ≤ d ∧ d ≤ m1 35 0)) ∧ m2 = (if (-1 ≤ d ∧ d ≤ m1 35 0) then set2 m1 35 2 d else m1))) ∨ (v2 = 0 ∧ SR m2 ∧ ((False ↔ (-1 ≤ d ∧ d ≤ m1 35 0)) ∧ m2 = (if (-1 ≤ d ∧ d ≤ m1 35 0) then set2 m1 35 2 d else m1)))) : v1 = v2 ∧ LI kd ln m2 sz := by
  have h3 : m1 = if (-1 ≤ d ∧ d ≤ mem 35 0) then set2 mem 3 1 d else mem := by
    rcases h1 with ⟨-, -, -, w⟩ | ⟨-, -, -, w⟩ <;> exact w
  have hR1 : HR m1 := by rcases h1 with ⟨-, w, -⟩ | ⟨-, w, -⟩ <;> exact w
  have hS2 : SR m2 := by rcases h2 with ⟨-, w, -⟩ | ⟨-, w, -⟩ <;> exact w
  by_cases hc : (-1 ≤ d ∧ d ≤ mem 35 0)
  · rw [if_pos hc] at h3
    subst h3
    have h4 : m2 = set2 (set2 mem 3 1 d) 35 2 d := by
      rcases h2 with ⟨-, -, -, w⟩ | ⟨-, -, -, w⟩ <;> exact w.trans (if_pos hc)
    have e1 : v1 = 1 := by
      rcases h1 with ⟨w, -⟩ | ⟨-, -, w, -⟩
      · exact w
      · exact absurd (w.mpr hc) (fun u => u)
    have e2 : v2 = 1 := by
      rcases h2 with ⟨w, -⟩ | ⟨-, -, w, -⟩
      · exact w
      · exact absurd (w.mpr hc) (fun u => u)
    refine ⟨e1.trans e2.symm, tg, ?_, by rw [h4]; exact hz⟩
    subst h4
    obtain ⟨g1, g7, g8, g9, g10⟩ := hI.2.2.1
    obtain ⟨g1, g2, g3, g4, g5, g6⟩ := g1
    refine hI.numd (hR1.of (fun a k q => s2_a (by omega))) hS2 (hI.eb.of7 (fun j => rfl)) (MI.k_as (MI.aft hI (fun a j q1 q2 => s2_a (by omega))).2.1 d hc) (fun a j q => by rw [s2_a (by omega), s2_a (by omega)]) (fun x j q1 q2 q3 q4 => by unfold set2; rw [if_neg (by omega), if_neg (by omega)]) ⟨⟨g1, rfl, g3, g4, g5, g6⟩, fun x y q1 q2 q3 q4 => (g7 x y q1 q2 q3 q4).trans (leftV_cg (M := mem) (M' := set2 (set2 mem 3 1 d) 35 2 d) rfl (fun r s u1 u2 => by unfold set2; rw [if_neg (by omega), if_neg (by omega)])).symm, g8, g9, g10⟩
  · rw [if_neg hc] at h3
    subst h3
    have h4 : m2 = m1 := by
      rcases h2 with ⟨-, -, -, w⟩ | ⟨-, -, -, w⟩ <;> exact w.trans (if_neg hc)
    have e1 : v1 = 0 := by
      rcases h1 with ⟨-, -, w, -⟩ | ⟨w, -⟩
      · exact absurd (w.mp trivial) hc
      · exact w
    have e2 : v2 = 0 := by
      rcases h2 with ⟨-, -, w, -⟩ | ⟨w, -⟩
      · exact absurd (w.mp trivial) hc
      · exact w
    exact ⟨e1.trans e2.symm, tg, by rw [h4]; exact hI, by rw [h4]; exact hz⟩
theorem MD_drift {kd : Int → Nat} {ln : Int → Int} {mem m1 : Int → Int → Int} {sz : Nat} {tg : Int → Int} {v : Int} {v1 : Int} (hI : INV kd ln mem sz tg) (h1 : (v1 = 1 ∧ HR m1 ∧ ((True ↔ 0 ≤ v ∧ v ≤ 1000) ∧ m1 = (if 0 ≤ v ∧ v ≤ 1000 then set2 mem 3 2 v else mem))) ∨ (v1 = 0 ∧ HR m1 ∧ ((False ↔ 0 ≤ v ∧ v ≤ 1000) ∧ m1 = (if 0 ≤ v ∧ v ≤ 1000 then set2 mem 3 2 v else mem)))) : EQS mem m1 ∧ MI m1 ∧ SR m1 := by
  refine MI.aft hI (fun r0 k0 q1 q2 => ?_)
  have h3 : m1 = if 0 ≤ v ∧ v ≤ 1000 then set2 mem 3 2 v else mem := by
    rcases h1 with ⟨-, -, -, w⟩ | ⟨-, -, -, w⟩ <;> exact w
  rw [h3]
  split
  · exact s2_a (by omega)
  · rfl
theorem ST_drift {kd : Int → Nat} {ln : Int → Int} {mem m1 m2 : Int → Int → Int} {sz : Nat} {tg : Int → Int} {v : Int} {v1 v2 : Int} (hI : INV kd ln mem sz tg) (hz : Z47 mem) (h1 : (v1 = 1 ∧ HR m1 ∧ ((True ↔ 0 ≤ v ∧ v ≤ 1000) ∧ m1 = (if 0 ≤ v ∧ v ≤ 1000 then set2 mem 3 2 v else mem))) ∨ (v1 = 0 ∧ HR m1 ∧ ((False ↔ 0 ≤ v ∧ v ≤ 1000) ∧ m1 = (if 0 ≤ v ∧ v ≤ 1000 then set2 mem 3 2 v else mem)))) (h2 : (v2 = 1 ∧ SR m2 ∧ ((True ↔ 0 ≤ v ∧ v ≤ 1000) ∧ m2 = (if 0 ≤ v ∧ v ≤ 1000 then set2 m1 35 46 v else m1))) ∨ (v2 = 0 ∧ SR m2 ∧ ((False ↔ 0 ≤ v ∧ v ≤ 1000) ∧ m2 = (if 0 ≤ v ∧ v ≤ 1000 then set2 m1 35 46 v else m1)))) : v1 = v2 ∧ LI kd ln m2 sz := by
  have h3 : m1 = if 0 ≤ v ∧ v ≤ 1000 then set2 mem 3 2 v else mem := by
    rcases h1 with ⟨-, -, -, w⟩ | ⟨-, -, -, w⟩ <;> exact w
  have hR1 : HR m1 := by rcases h1 with ⟨-, w, -⟩ | ⟨-, w, -⟩ <;> exact w
  have hS2 : SR m2 := by rcases h2 with ⟨-, w, -⟩ | ⟨-, w, -⟩ <;> exact w
  by_cases hc : 0 ≤ v ∧ v ≤ 1000
  · rw [if_pos hc] at h3
    subst h3
    have h4 : m2 = set2 (set2 mem 3 2 v) 35 46 v := by
      rcases h2 with ⟨-, -, -, w⟩ | ⟨-, -, -, w⟩ <;> exact w.trans (if_pos hc)
    have e1 : v1 = 1 := by
      rcases h1 with ⟨w, -⟩ | ⟨-, -, w, -⟩
      · exact w
      · exact absurd (w.mpr hc) (fun u => u)
    have e2 : v2 = 1 := by
      rcases h2 with ⟨w, -⟩ | ⟨-, -, w, -⟩
      · exact w
      · exact absurd (w.mpr hc) (fun u => u)
    refine ⟨e1.trans e2.symm, tg, ?_, by rw [h4]; exact hz⟩
    subst h4
    obtain ⟨g1, g7, g8, g9, g10⟩ := hI.2.2.1
    obtain ⟨g1, g2, g3, g4, g5, g6⟩ := g1
    refine hI.numd (hR1.of (fun a k q => s2_a (by omega))) hS2 (hI.eb.of7 (fun j => rfl)) (MI.k_drift (MI.aft hI (fun a j q1 q2 => s2_a (by omega))).2.1 v hc) (fun a j q => by rw [s2_a (by omega), s2_a (by omega)]) (fun x j q1 q2 q3 q4 => by unfold set2; rw [if_neg (by omega), if_neg (by omega)]) ⟨⟨g1, g2, rfl, g4, g5, g6⟩, fun x y q1 q2 q3 q4 => (g7 x y q1 q2 q3 q4).trans (leftV_cg (M := mem) (M' := set2 (set2 mem 3 2 v) 35 46 v) rfl (fun r s u1 u2 => by unfold set2; rw [if_neg (by omega), if_neg (by omega)])).symm, g8, g9, g10⟩
  · rw [if_neg hc] at h3
    subst h3
    have h4 : m2 = m1 := by
      rcases h2 with ⟨-, -, -, w⟩ | ⟨-, -, -, w⟩ <;> exact w.trans (if_neg hc)
    have e1 : v1 = 0 := by
      rcases h1 with ⟨-, -, w, -⟩ | ⟨w, -⟩
      · exact absurd (w.mp trivial) hc
      · exact w
    have e2 : v2 = 0 := by
      rcases h2 with ⟨-, -, w, -⟩ | ⟨w, -⟩
      · exact absurd (w.mp trivial) hc
      · exact w
    exact ⟨e1.trans e2.symm, tg, by rw [h4]; exact hI, by rw [h4]; exact hz⟩
theorem MD_hours {kd : Int → Nat} {ln : Int → Int} {mem m1 : Int → Int → Int} {sz : Nat} {tg : Int → Int} {v : Int} {v1 : Int} (hI : INV kd ln mem sz tg) (h1 : (v1 = 1 ∧ HR m1 ∧ ((True ↔ 1 ≤ v ∧ v ≤ 100) ∧ m1 = (if 1 ≤ v ∧ v ≤ 100 then set2 mem 3 3 v else mem))) ∨ (v1 = 0 ∧ HR m1 ∧ ((False ↔ 1 ≤ v ∧ v ≤ 100) ∧ m1 = (if 1 ≤ v ∧ v ≤ 100 then set2 mem 3 3 v else mem)))) : EQS mem m1 ∧ MI m1 ∧ SR m1 := by
  refine MI.aft hI (fun r0 k0 q1 q2 => ?_)
  have h3 : m1 = if 1 ≤ v ∧ v ≤ 100 then set2 mem 3 3 v else mem := by
    rcases h1 with ⟨-, -, -, w⟩ | ⟨-, -, -, w⟩ <;> exact w
  rw [h3]
  split
  · exact s2_a (by omega)
  · rfl
theorem ST_hours {kd : Int → Nat} {ln : Int → Int} {mem m1 m2 : Int → Int → Int} {sz : Nat} {tg : Int → Int} {v : Int} {v1 v2 : Int} (hI : INV kd ln mem sz tg) (hz : Z47 mem) (h1 : (v1 = 1 ∧ HR m1 ∧ ((True ↔ 1 ≤ v ∧ v ≤ 100) ∧ m1 = (if 1 ≤ v ∧ v ≤ 100 then set2 mem 3 3 v else mem))) ∨ (v1 = 0 ∧ HR m1 ∧ ((False ↔ 1 ≤ v ∧ v ≤ 100) ∧ m1 = (if 1 ≤ v ∧ v ≤ 100 then set2 mem 3 3 v else mem)))) (h2 : (v2 = 1 ∧ SR m2 ∧ ((True ↔ (1 ≤ v ∧ v ≤ 100)) ∧ m2 = (if (1 ≤ v ∧ v ≤ 100) then set2 m1 35 89 v else m1))) ∨ (v2 = 0 ∧ SR m2 ∧ ((False ↔ (1 ≤ v ∧ v ≤ 100)) ∧ m2 = (if (1 ≤ v ∧ v ≤ 100) then set2 m1 35 89 v else m1)))) : v1 = v2 ∧ LI kd ln m2 sz := by
  have h3 : m1 = if 1 ≤ v ∧ v ≤ 100 then set2 mem 3 3 v else mem := by
    rcases h1 with ⟨-, -, -, w⟩ | ⟨-, -, -, w⟩ <;> exact w
  have hR1 : HR m1 := by rcases h1 with ⟨-, w, -⟩ | ⟨-, w, -⟩ <;> exact w
  have hS2 : SR m2 := by rcases h2 with ⟨-, w, -⟩ | ⟨-, w, -⟩ <;> exact w
  by_cases hc : 1 ≤ v ∧ v ≤ 100
  · rw [if_pos hc] at h3
    subst h3
    have h4 : m2 = set2 (set2 mem 3 3 v) 35 89 v := by
      rcases h2 with ⟨-, -, -, w⟩ | ⟨-, -, -, w⟩ <;> exact w.trans (if_pos hc)
    have e1 : v1 = 1 := by
      rcases h1 with ⟨w, -⟩ | ⟨-, -, w, -⟩
      · exact w
      · exact absurd (w.mpr hc) (fun u => u)
    have e2 : v2 = 1 := by
      rcases h2 with ⟨w, -⟩ | ⟨-, -, w, -⟩
      · exact w
      · exact absurd (w.mpr hc) (fun u => u)
    refine ⟨e1.trans e2.symm, tg, ?_, by rw [h4]; exact hz⟩
    subst h4
    obtain ⟨g1, g7, g8, g9, g10⟩ := hI.2.2.1
    obtain ⟨g1, g2, g3, g4, g5, g6⟩ := g1
    refine hI.numd (hR1.of (fun a k q => s2_a (by omega))) hS2 (hI.eb.of7 (fun j => rfl)) (MI.k_hours (MI.aft hI (fun a j q1 q2 => s2_a (by omega))).2.1 v hc) (fun a j q => by rw [s2_a (by omega), s2_a (by omega)]) (fun x j q1 q2 q3 q4 => by unfold set2; rw [if_neg (by omega), if_neg (by omega)]) ⟨⟨g1, g2, g3, rfl, g5, g6⟩, fun x y q1 q2 q3 q4 => (g7 x y q1 q2 q3 q4).trans (leftV_cg (M := mem) (M' := set2 (set2 mem 3 3 v) 35 89 v) rfl (fun r s u1 u2 => by unfold set2; rw [if_neg (by omega), if_neg (by omega)])).symm, g8, g9, g10⟩
  · rw [if_neg hc] at h3
    subst h3
    have h4 : m2 = m1 := by
      rcases h2 with ⟨-, -, -, w⟩ | ⟨-, -, -, w⟩ <;> exact w.trans (if_neg hc)
    have e1 : v1 = 0 := by
      rcases h1 with ⟨-, -, w, -⟩ | ⟨w, -⟩
      · exact absurd (w.mp trivial) hc
      · exact w
    have e2 : v2 = 0 := by
      rcases h2 with ⟨-, -, w, -⟩ | ⟨w, -⟩
      · exact absurd (w.mp trivial) hc
      · exact w
    exact ⟨e1.trans e2.symm, tg, by rw [h4]; exact hI, by rw [h4]; exact hz⟩
theorem MD_end {kd : Int → Nat} {ln : Int → Int} {mem m1 : Int → Int → Int} {sz : Nat} {tg : Int → Int} {n : Int} {v1 : Int} (hI : INV kd ln mem sz tg) (h1 : (v1 = 1 ∧ HR m1 ∧ ((True ↔ (0 ≤ n ∧ n ≤ mem 35 11)) ∧ m1 = (if (0 ≤ n ∧ n ≤ mem 35 11) then set2 mem 5 1 n else mem))) ∨ (v1 = 0 ∧ HR m1 ∧ ((False ↔ (0 ≤ n ∧ n ≤ mem 35 11)) ∧ m1 = (if (0 ≤ n ∧ n ≤ mem 35 11) then set2 mem 5 1 n else mem)))) : EQS mem m1 ∧ MI m1 ∧ SR m1 := by
  refine MI.aft hI (fun r0 k0 q1 q2 => ?_)
  have h3 : m1 = if (0 ≤ n ∧ n ≤ mem 35 11) then set2 mem 5 1 n else mem := by
    rcases h1 with ⟨-, -, -, w⟩ | ⟨-, -, -, w⟩ <;> exact w
  rw [h3]
  split
  · exact s2_a (by omega)
  · rfl
theorem ST_end {kd : Int → Nat} {ln : Int → Int} {mem m1 m2 : Int → Int → Int} {sz : Nat} {tg : Int → Int} {n : Int} {v1 v2 : Int} (hI : INV kd ln mem sz tg) (hz : Z47 mem) (h1 : (v1 = 1 ∧ HR m1 ∧ ((True ↔ (0 ≤ n ∧ n ≤ mem 35 11)) ∧ m1 = (if (0 ≤ n ∧ n ≤ mem 35 11) then set2 mem 5 1 n else mem))) ∨ (v1 = 0 ∧ HR m1 ∧ ((False ↔ (0 ≤ n ∧ n ≤ mem 35 11)) ∧ m1 = (if (0 ≤ n ∧ n ≤ mem 35 11) then set2 mem 5 1 n else mem)))) (h2 : (v2 = 1 ∧ SR m2 ∧ ((True ↔ (0 ≤ n ∧ n ≤ m1 35 11)) ∧ m2 = (if (0 ≤ n ∧ n ≤ m1 35 11) then set2 m1 35 11 n else m1))) ∨ (v2 = 0 ∧ SR m2 ∧ ((False ↔ (0 ≤ n ∧ n ≤ m1 35 11)) ∧ m2 = (if (0 ≤ n ∧ n ≤ m1 35 11) then set2 m1 35 11 n else m1)))) : v1 = v2 ∧ LI kd ln m2 sz := by
  have h3 : m1 = if (0 ≤ n ∧ n ≤ mem 35 11) then set2 mem 5 1 n else mem := by
    rcases h1 with ⟨-, -, -, w⟩ | ⟨-, -, -, w⟩ <;> exact w
  have hR1 : HR m1 := by rcases h1 with ⟨-, w, -⟩ | ⟨-, w, -⟩ <;> exact w
  have hS2 : SR m2 := by rcases h2 with ⟨-, w, -⟩ | ⟨-, w, -⟩ <;> exact w
  by_cases hc : (0 ≤ n ∧ n ≤ mem 35 11)
  · rw [if_pos hc] at h3
    subst h3
    have h4 : m2 = set2 (set2 mem 5 1 n) 35 11 n := by
      rcases h2 with ⟨-, -, -, w⟩ | ⟨-, -, -, w⟩ <;> exact w.trans (if_pos hc)
    have e1 : v1 = 1 := by
      rcases h1 with ⟨w, -⟩ | ⟨-, -, w, -⟩
      · exact w
      · exact absurd (w.mpr hc) (fun u => u)
    have e2 : v2 = 1 := by
      rcases h2 with ⟨w, -⟩ | ⟨-, -, w, -⟩
      · exact w
      · exact absurd (w.mpr hc) (fun u => u)
    refine ⟨e1.trans e2.symm, tg, ?_, by rw [h4]; exact hz⟩
    subst h4
    obtain ⟨g1, g7, g8, g9, g10⟩ := hI.2.2.1
    obtain ⟨g1, g2, g3, g4, g5, g6⟩ := g1
    refine hI.numd (hR1.of (fun a k q => s2_a (by omega))) hS2 (hI.eb.of7 (fun j => rfl)) (MI.k_end (MI.aft hI (fun a j q1 q2 => s2_a (by omega))).2.1 n hc) (fun a j q => by rw [s2_a (by omega), s2_a (by omega)]) (fun x j q1 q2 q3 q4 => by unfold set2; rw [if_neg (by omega), if_neg (by omega)]) ⟨⟨g1, g2, g3, g4, g5, g6⟩, fun x y q1 q2 q3 q4 => (g7 x y q1 q2 q3 q4).trans (leftV_cg (M := mem) (M' := set2 (set2 mem 5 1 n) 35 11 n) rfl (fun r s u1 u2 => by unfold set2; rw [if_neg (by omega), if_neg (by omega)])).symm, rfl, g9, g10⟩
  · rw [if_neg hc] at h3
    subst h3
    have h4 : m2 = m1 := by
      rcases h2 with ⟨-, -, -, w⟩ | ⟨-, -, -, w⟩ <;> exact w.trans (if_neg hc)
    have e1 : v1 = 0 := by
      rcases h1 with ⟨-, -, w, -⟩ | ⟨w, -⟩
      · exact absurd (w.mp trivial) hc
      · exact w
    have e2 : v2 = 0 := by
      rcases h2 with ⟨-, -, w, -⟩ | ⟨w, -⟩
      · exact absurd (w.mp trivial) hc
      · exact w
    exact ⟨e1.trans e2.symm, tg, by rw [h4]; exact hI, by rw [h4]; exact hz⟩
theorem MD_days {kd : Int → Nat} {ln : Int → Int} {mem m1 : Int → Int → Int} {sz : Nat} {tg : Int → Int} {n : Int} {v1 : Int} (hI : INV kd ln mem sz tg) (h1 : HR m1 ∧ (((0 ≤ n ∧ n ≤ 1000 ∧ mem 35 0 + n ≤ 1000) → v1 = mem 35 0 + n ∧ m1 = set2 mem 3 0 (mem 35 0 + n)) ∧ (¬ (0 ≤ n ∧ n ≤ 1000 ∧ mem 35 0 + n ≤ 1000) → v1 = -1 ∧ m1 = mem))) : EQS mem m1 ∧ MI m1 ∧ SR m1 := by
  refine MI.aft hI (fun r0 k0 q1 q2 => ?_)
  by_cases hc : 0 ≤ n ∧ n ≤ 1000 ∧ mem 35 0 + n ≤ 1000
  · rw [(h1.2.1 hc).2]; exact s2_a (by omega)
  · rw [(h1.2.2 hc).2]
theorem ST_days {kd : Int → Nat} {ln : Int → Int} {mem m1 m2 : Int → Int → Int} {sz : Nat} {tg : Int → Int} {n : Int} {v1 v2 : Int} (hI : INV kd ln mem sz tg) (hz : Z47 mem) (h1 : HR m1 ∧ (((0 ≤ n ∧ n ≤ 1000 ∧ mem 35 0 + n ≤ 1000) → v1 = mem 35 0 + n ∧ m1 = set2 mem 3 0 (mem 35 0 + n)) ∧ (¬ (0 ≤ n ∧ n ≤ 1000 ∧ mem 35 0 + n ≤ 1000) → v1 = -1 ∧ m1 = mem))) (h2 : SR m2 ∧ (((0 ≤ n ∧ n ≤ 1000 ∧ m1 35 0 + n ≤ 1000) → v2 = m1 35 0 + n ∧ m2 = set2 m1 35 0 (m1 35 0 + n)) ∧ (¬ (0 ≤ n ∧ n ≤ 1000 ∧ m1 35 0 + n ≤ 1000) → v2 = -1 ∧ m2 = m1))) : v1 = v2 ∧ LI kd ln m2 sz := by
  obtain ⟨hR1, h1c, h1n⟩ := h1
  by_cases hc : 0 ≤ n ∧ n ≤ 1000 ∧ mem 35 0 + n ≤ 1000
  · obtain ⟨e1, h3⟩ := h1c hc
    subst h3
    obtain ⟨e2, h4⟩ := h2.2.1 hc
    refine ⟨e1.trans e2.symm, tg, ?_, by rw [h4]; exact hz⟩
    have hS2 := h2.1
    subst h4
    obtain ⟨g1, g7, g8, g9, g10⟩ := hI.2.2.1
    obtain ⟨g1, g2, g3, g4, g5, g6⟩ := g1
    refine hI.numd (hR1.of (fun a k q => s2_a (by omega))) hS2 (hI.eb.of7 (fun j => rfl)) (MI.k_days (MI.aft hI (fun a j q1 q2 => s2_a (by omega))).2.1 _ ⟨(show mem 35 0 ≤ mem 35 0 + n by omega), hc.2.2⟩) (fun a j q => by rw [s2_a (by omega), s2_a (by omega)]) (fun x j q1 q2 q3 q4 => by unfold set2; rw [if_neg (by omega), if_neg (by omega)]) ⟨⟨rfl, g2, g3, g4, g5, g6⟩, fun x y q1 q2 q3 q4 => (g7 x y q1 q2 q3 q4).trans (leftV_cg (M := mem) (M' := set2 (set2 mem 3 0 (mem 35 0 + n)) 35 0 (mem 35 0 + n)) rfl (fun r s u1 u2 => by unfold set2; rw [if_neg (by omega), if_neg (by omega)])).symm, g8, g9, g10⟩
  · obtain ⟨e1, h3⟩ := h1n hc
    subst h3
    obtain ⟨e2, h4⟩ := h2.2.2 hc
    exact ⟨e1.trans e2.symm, tg, by rw [h4]; exact hI, by rw [h4]; exact hz⟩
theorem MD_mend {kd : Int → Nat} {ln : Int → Int} {mem m1 : Int → Int → Int} {sz : Nat} {tg : Int → Int} {s : Int} {v1 : Int} (hI : INV kd ln mem sz tg) (h1 : (v1 = 1 ∧ HR m1 ∧ ((True ↔ mendC mem s) ∧ m1 = (if mendC mem s then set2 mem (mem (mem 30 1) s) 5 (mem 35 0) else mem))) ∨ (v1 = 0 ∧ HR m1 ∧ ((False ↔ mendC mem s) ∧ m1 = (if mendC mem s then set2 mem (mem (mem 30 1) s) 5 (mem 35 0) else mem)))) : EQS mem m1 ∧ MI m1 ∧ SR m1 := by
  refine MI.aft hI (fun r0 k0 q1 q2 => ?_)
  have h3 : m1 = if mendC mem s then set2 mem (mem (mem 30 1) s) 5 (mem 35 0) else mem := by
    rcases h1 with ⟨-, -, -, w⟩ | ⟨-, -, -, w⟩ <;> exact w
  rw [h3]
  split
  · rename_i hc
    have ha : 101 ≤ mem (mem 30 1) s := ((hI.slp (s := s) (by omega) (by omega)).1.2.1)
    exact s2_a (by omega)
  · rfl
theorem ST_mend {kd : Int → Nat} {ln : Int → Int} {mem m1 m2 : Int → Int → Int} {sz : Nat} {tg : Int → Int} {s : Int} {v1 v2 : Int} (hI : INV kd ln mem sz tg) (hz : Z47 mem) (h1 : (v1 = 1 ∧ HR m1 ∧ ((True ↔ mendC mem s) ∧ m1 = (if mendC mem s then set2 mem (mem (mem 30 1) s) 5 (mem 35 0) else mem))) ∨ (v1 = 0 ∧ HR m1 ∧ ((False ↔ mendC mem s) ∧ m1 = (if mendC mem s then set2 mem (mem (mem 30 1) s) 5 (mem 35 0) else mem)))) (h2 : (v2 = 1 ∧ SR m2 ∧ ((True ↔ mendC m1 s) ∧ m2 = (if mendC m1 s then set2 m1 68 s (m1 35 0) else m1))) ∨ (v2 = 0 ∧ SR m2 ∧ ((False ↔ mendC m1 s) ∧ m2 = (if mendC m1 s then set2 m1 68 s (m1 35 0) else m1)))) : v1 = v2 ∧ LI kd ln m2 sz := by
  have h3 : m1 = if mendC mem s then set2 mem (mem (mem 30 1) s) 5 (mem 35 0) else mem := by
    rcases h1 with ⟨-, -, -, w⟩ | ⟨-, -, -, w⟩ <;> exact w
  have hR1 : HR m1 := by rcases h1 with ⟨-, w, -⟩ | ⟨-, w, -⟩ <;> exact w
  have hS2 : SR m2 := by rcases h2 with ⟨-, w, -⟩ | ⟨-, w, -⟩ <;> exact w
  obtain ⟨he, hMI, hS1⟩ := MD_mend hI h1
  have ec : (mendC m1 s) ↔ (mendC mem s) := by rw [ovr_ex he]; exact Iff.rfl
  by_cases hc : mendC mem s
  · rw [if_pos hc] at h3
    have h4 : m2 = set2 m1 68 s (m1 35 0) := by
      rcases h2 with ⟨-, -, -, w⟩ | ⟨-, -, -, w⟩ <;> exact w.trans (if_pos (ec.mpr hc))
    have e1 : v1 = 1 := by
      rcases h1 with ⟨w, -⟩ | ⟨-, -, w, -⟩
      · exact w
      · exact absurd (w.mpr hc) (fun u => u)
    have e2 : v2 = 1 := by
      rcases h2 with ⟨w, -⟩ | ⟨-, -, w, -⟩
      · exact w
      · exact absurd (w.mpr (ec.mpr hc)) (fun u => u)
    have ha : 101 ≤ mem (mem 30 1) s := (hI.slp (s := s) (by omega) (by omega)).1.2.1
    have hGr := GRP.mend (x := mem 35 0) hI (s := s) (by omega)
    refine ⟨e1.trans e2.symm, tg, ?_, ?_⟩
    · have hG : GRP kd ln m1 sz tg (set2 mem 68 s (mem 35 0)) := by rw [h3]; exact hGr
      refine hI.fin EXT.rf hR1 (hI.eb.of7 (fun j => by rw [h3]; exact s2_a (by omega))) hG (fun a j q => by rw [h4]; exact s2_a (by omega)) (fun a j q => by rw [h4]; rw [he 35 0 (by omega)]; unfold set2; rw [he a j q]) (by rw [h4]; exact hMI.k_mend s) hS2
    · rw [h4]; exact (show Z47 m1 from hz.eqs he)
  · rw [if_neg hc] at h3
    subst h3
    have h4 : m2 = m1 := by
      rcases h2 with ⟨-, -, -, w⟩ | ⟨-, -, -, w⟩ <;> exact w.trans (if_neg hc)
    have e1 : v1 = 0 := by
      rcases h1 with ⟨-, -, w, -⟩ | ⟨w, -⟩
      · exact absurd (w.mp trivial) hc
      · exact w
    have e2 : v2 = 0 := by
      rcases h2 with ⟨-, -, w, -⟩ | ⟨w, -⟩
      · exact absurd (w.mp trivial) hc
      · exact w
    exact ⟨e1.trans e2.symm, tg, by rw [h4]; exact hI, by rw [h4]; exact hz⟩
theorem MD_put {kd : Int → Nat} {ln : Int → Int} {mem m1 : Int → Int → Int} {sz : Nat} {tg : Int → Int} {s j w : Int} {v1 : Int} (hI : INV kd ln mem sz tg) (h1 : (v1 = 1 ∧ HR m1 ∧ ((True ↔ putC mem s j w) ∧ m1 = (if putC mem s j w then set2 mem (mem (mem (mem 34 1) s) 1) j (shV (mem 97 s) w) else mem))) ∨ (v1 = 0 ∧ HR m1 ∧ ((False ↔ putC mem s j w) ∧ m1 = (if putC mem s j w then set2 mem (mem (mem (mem 34 1) s) 1) j (shV (mem 97 s) w) else mem)))) : EQS mem m1 ∧ MI m1 ∧ SR m1 := by
  refine MI.aft hI (fun r0 k0 q1 q2 => ?_)
  have h3 : m1 = if putC mem s j w then set2 mem (mem (mem (mem 34 1) s) 1) j (shV (mem 97 s) w) else mem := by
    rcases h1 with ⟨-, -, -, w⟩ | ⟨-, -, -, w⟩ <;> exact w
  rw [h3]
  split
  · rename_i hc
    have ha : 101 ≤ mem (mem (mem 34 1) s) 1 := ((hI.sht (s := s) (by omega) (by omega)).2.2.1.2.1.2.2.1)
    exact s2_a (by omega)
  · rfl
theorem ST_put {kd : Int → Nat} {ln : Int → Int} {mem m1 m2 : Int → Int → Int} {sz : Nat} {tg : Int → Int} {s j w : Int} {v1 v2 : Int} (hI : INV kd ln mem sz tg) (hz : Z47 mem) (h1 : (v1 = 1 ∧ HR m1 ∧ ((True ↔ putC mem s j w) ∧ m1 = (if putC mem s j w then set2 mem (mem (mem (mem 34 1) s) 1) j (shV (mem 97 s) w) else mem))) ∨ (v1 = 0 ∧ HR m1 ∧ ((False ↔ putC mem s j w) ∧ m1 = (if putC mem s j w then set2 mem (mem (mem (mem 34 1) s) 1) j (shV (mem 97 s) w) else mem)))) (h2 : (v2 = 1 ∧ SR m2 ∧ ((True ↔ putC m1 s j w) ∧ m2 = (if putC m1 s j w then (set2 m1 99 (40 * s + j) (shV (m1 97 s) w)) else m1))) ∨ (v2 = 0 ∧ SR m2 ∧ ((False ↔ putC m1 s j w) ∧ m2 = (if putC m1 s j w then (set2 m1 99 (40 * s + j) (shV (m1 97 s) w)) else m1)))) : v1 = v2 ∧ LI kd ln m2 sz := by
  have h3 : m1 = if putC mem s j w then set2 mem (mem (mem (mem 34 1) s) 1) j (shV (mem 97 s) w) else mem := by
    rcases h1 with ⟨-, -, -, w⟩ | ⟨-, -, -, w⟩ <;> exact w
  have hR1 : HR m1 := by rcases h1 with ⟨-, w, -⟩ | ⟨-, w, -⟩ <;> exact w
  have hS2 : SR m2 := by rcases h2 with ⟨-, w, -⟩ | ⟨-, w, -⟩ <;> exact w
  obtain ⟨he, hMI, hS1⟩ := MD_put hI h1
  have ec : (putC m1 s j w) ↔ (putC mem s j w) := by rw [ovr_ex he]; exact Iff.rfl
  by_cases hc : putC mem s j w
  · rw [if_pos hc] at h3
    have h4 : m2 = (set2 m1 99 (40 * s + j) (shV (m1 97 s) w)) := by
      rcases h2 with ⟨-, -, -, w⟩ | ⟨-, -, -, w⟩ <;> exact w.trans (if_pos (ec.mpr hc))
    have e1 : v1 = 1 := by
      rcases h1 with ⟨w, -⟩ | ⟨-, -, w, -⟩
      · exact w
      · exact absurd (w.mpr hc) (fun u => u)
    have e2 : v2 = 1 := by
      rcases h2 with ⟨w, -⟩ | ⟨-, -, w, -⟩
      · exact w
      · exact absurd (w.mpr (ec.mpr hc)) (fun u => u)
    have ha : 101 ≤ mem (mem (mem 34 1) s) 1 := (hI.sht (s := s) (by omega) (by omega)).2.2.1.2.1.2.2.1
    have hGr := GRP.put (x := shV (mem 97 s) w) hI (s := s) (j := j) (by omega) (by omega)
    refine ⟨e1.trans e2.symm, tg, ?_, ?_⟩
    · have hG : GRP kd ln m1 sz tg ((set2 mem 99 (40 * s + j) (shV (mem 97 s) w))) := by rw [h3]; exact hGr
      refine hI.fin EXT.rf hR1 (hI.eb.of7 (fun j => by rw [h3]; exact s2_a (by omega))) hG (fun a j q => by rw [h4]; exact s2_a (by omega)) (fun a j q => by rw [h4]; rw [he 97 s (by omega)]; unfold set2; rw [he a _ q]) (by rw [h4]; exact hMI.k_put s j _ ⟨hc.1.1, by rw [he 35 88 (by omega)]; omega, by omega, by omega⟩) hS2
    · rw [h4]; exact (show Z47 m1 from hz.eqs he)
  · rw [if_neg hc] at h3
    subst h3
    have h4 : m2 = m1 := by
      rcases h2 with ⟨-, -, -, w⟩ | ⟨-, -, -, w⟩ <;> exact w.trans (if_neg hc)
    have e1 : v1 = 0 := by
      rcases h1 with ⟨-, -, w, -⟩ | ⟨w, -⟩
      · exact absurd (w.mp trivial) hc
      · exact w
    have e2 : v2 = 0 := by
      rcases h2 with ⟨-, -, w, -⟩ | ⟨w, -⟩
      · exact absurd (w.mp trivial) hc
      · exact w
    exact ⟨e1.trans e2.symm, tg, by rw [h4]; exact hI, by rw [h4]; exact hz⟩
theorem MD_lose {kd : Int → Nat} {ln : Int → Int} {mem m1 : Int → Int → Int} {sz : Nat} {tg : Int → Int} {s : Int} {v1 : Int} (hI : INV kd ln mem sz tg) (h1 : (v1 = 1 ∧ HR m1 ∧ ((True ↔ (isSh mem s ∧ mem 98 s = 0)) ∧ m1 = (if (isSh mem s ∧ mem 98 s = 0) then set2 mem (mem (mem 34 1) s) 2 1 else mem))) ∨ (v1 = 0 ∧ HR m1 ∧ ((False ↔ (isSh mem s ∧ mem 98 s = 0)) ∧ m1 = (if (isSh mem s ∧ mem 98 s = 0) then set2 mem (mem (mem 34 1) s) 2 1 else mem)))) : EQS mem m1 ∧ MI m1 ∧ SR m1 := by
  refine MI.aft hI (fun r0 k0 q1 q2 => ?_)
  have h3 : m1 = if isSh mem s ∧ mem 98 s = 0 then set2 mem (mem (mem 34 1) s) 2 1 else mem := by
    rcases h1 with ⟨-, -, -, w⟩ | ⟨-, -, -, w⟩ <;> exact w
  rw [h3]
  split
  · rename_i hc
    have ha : 101 ≤ mem (mem 34 1) s := ((hI.sht (s := s) (by omega) (by omega)).2.1.1)
    exact s2_a (by omega)
  · rfl
theorem ST_lose {kd : Int → Nat} {ln : Int → Int} {mem m1 m2 : Int → Int → Int} {sz : Nat} {tg : Int → Int} {s : Int} {v1 v2 : Int} (hI : INV kd ln mem sz tg) (hz : Z47 mem) (h1 : (v1 = 1 ∧ HR m1 ∧ ((True ↔ (isSh mem s ∧ mem 98 s = 0)) ∧ m1 = (if (isSh mem s ∧ mem 98 s = 0) then set2 mem (mem (mem 34 1) s) 2 1 else mem))) ∨ (v1 = 0 ∧ HR m1 ∧ ((False ↔ (isSh mem s ∧ mem 98 s = 0)) ∧ m1 = (if (isSh mem s ∧ mem 98 s = 0) then set2 mem (mem (mem 34 1) s) 2 1 else mem)))) (h2 : (v2 = 1 ∧ SR m2 ∧ ((True ↔ (isSh m1 s ∧ m1 98 s = 0)) ∧ m2 = (if (isSh m1 s ∧ m1 98 s = 0) then set2 m1 98 s 1 else m1))) ∨ (v2 = 0 ∧ SR m2 ∧ ((False ↔ (isSh m1 s ∧ m1 98 s = 0)) ∧ m2 = (if (isSh m1 s ∧ m1 98 s = 0) then set2 m1 98 s 1 else m1)))) : v1 = v2 ∧ LI kd ln m2 sz := by
  have h3 : m1 = if isSh mem s ∧ mem 98 s = 0 then set2 mem (mem (mem 34 1) s) 2 1 else mem := by
    rcases h1 with ⟨-, -, -, w⟩ | ⟨-, -, -, w⟩ <;> exact w
  have hR1 : HR m1 := by rcases h1 with ⟨-, w, -⟩ | ⟨-, w, -⟩ <;> exact w
  have hS2 : SR m2 := by rcases h2 with ⟨-, w, -⟩ | ⟨-, w, -⟩ <;> exact w
  obtain ⟨he, hMI, hS1⟩ := MD_lose hI h1
  have ec : (isSh m1 s ∧ m1 98 s = 0) ↔ (isSh mem s ∧ mem 98 s = 0) := by rw [ovr_ex he]; exact Iff.rfl
  by_cases hc : isSh mem s ∧ mem 98 s = 0
  · rw [if_pos hc] at h3
    have h4 : m2 = set2 m1 98 s 1 := by
      rcases h2 with ⟨-, -, -, w⟩ | ⟨-, -, -, w⟩ <;> exact w.trans (if_pos (ec.mpr hc))
    have e1 : v1 = 1 := by
      rcases h1 with ⟨w, -⟩ | ⟨-, -, w, -⟩
      · exact w
      · exact absurd (w.mpr hc) (fun u => u)
    have e2 : v2 = 1 := by
      rcases h2 with ⟨w, -⟩ | ⟨-, -, w, -⟩
      · exact w
      · exact absurd (w.mpr (ec.mpr hc)) (fun u => u)
    have ha : 101 ≤ mem (mem 34 1) s := (hI.sht (s := s) (by omega) (by omega)).2.1.1
    have hGr := GRP.lose hI (s := s) (by omega)
    refine ⟨e1.trans e2.symm, tg, ?_, ?_⟩
    · have hG : GRP kd ln m1 sz tg (set2 mem 98 s 1) := by rw [h3]; exact hGr
      refine hI.fin EXT.rf hR1 (hI.eb.of7 (fun j => by rw [h3]; exact s2_a (by omega))) hG (fun a j q => by rw [h4]; exact s2_a (by omega)) (fun a j q => by rw [h4]; unfold set2; rw [he a j q]) (by rw [h4]; exact hMI.k_lose s ⟨hc.1.1, by rw [he 35 88 (by omega)]; omega⟩) hS2
    · rw [h4]; exact (show Z47 m1 from hz.eqs he)
  · rw [if_neg hc] at h3
    subst h3
    have h4 : m2 = m1 := by
      rcases h2 with ⟨-, -, -, w⟩ | ⟨-, -, -, w⟩ <;> exact w.trans (if_neg hc)
    have e1 : v1 = 0 := by
      rcases h1 with ⟨-, -, w, -⟩ | ⟨w, -⟩
      · exact absurd (w.mp trivial) hc
      · exact w
    have e2 : v2 = 0 := by
      rcases h2 with ⟨-, -, w, -⟩ | ⟨w, -⟩
      · exact absurd (w.mp trivial) hc
      · exact w
    exact ⟨e1.trans e2.symm, tg, by rw [h4]; exact hI, by rw [h4]; exact hz⟩
theorem MD_tell {kd : Int → Nat} {ln : Int → Int} {mem m1 : Int → Int → Int} {sz : Nat} {tg : Int → Int} {t n x : Int} {v1 : Int} (hI : INV kd ln mem sz tg) (h1 : (v1 = 1 ∧ HR m1 ∧ ((True ↔ tellC mem t n) ∧ m1 = (if tellC mem t n then set2 mem (mem (mem (mem 32 1) t) 1) n x else mem))) ∨ (v1 = 0 ∧ HR m1 ∧ ((False ↔ tellC mem t n) ∧ m1 = (if tellC mem t n then set2 mem (mem (mem (mem 32 1) t) 1) n x else mem)))) : EQS mem m1 ∧ MI m1 ∧ SR m1 := by
  refine MI.aft hI (fun r0 k0 q1 q2 => ?_)
  have h3 : m1 = if tellC mem t n then set2 mem (mem (mem (mem 32 1) t) 1) n x else mem := by
    rcases h1 with ⟨-, -, -, w⟩ | ⟨-, -, -, w⟩ <;> exact w
  rw [h3]
  split
  · rename_i hc
    have ha : 101 ≤ mem (mem (mem 32 1) t) 1 := ((hI.g32.2.2.2 t (by omega) (by omega)).2.2.2.1.2.2.1)
    exact s2_a (by omega)
  · rfl
theorem ST_tell {kd : Int → Nat} {ln : Int → Int} {mem m1 m2 : Int → Int → Int} {sz : Nat} {tg : Int → Int} {t n x : Int} {v1 v2 : Int} (hI : INV kd ln mem sz tg) (hz : Z47 mem) (h1 : (v1 = 1 ∧ HR m1 ∧ ((True ↔ tellC mem t n) ∧ m1 = (if tellC mem t n then set2 mem (mem (mem (mem 32 1) t) 1) n x else mem))) ∨ (v1 = 0 ∧ HR m1 ∧ ((False ↔ tellC mem t n) ∧ m1 = (if tellC mem t n then set2 mem (mem (mem (mem 32 1) t) 1) n x else mem)))) (h2 : (v2 = 1 ∧ SR m2 ∧ ((True ↔ tellC m1 t n) ∧ m2 = (if tellC m1 t n then tellM m1 t n x else m1))) ∨ (v2 = 0 ∧ SR m2 ∧ ((False ↔ tellC m1 t n) ∧ m2 = (if tellC m1 t n then tellM m1 t n x else m1)))) : v1 = v2 ∧ LI kd ln m2 sz := by
  have h3 : m1 = if tellC mem t n then set2 mem (mem (mem (mem 32 1) t) 1) n x else mem := by
    rcases h1 with ⟨-, -, -, w⟩ | ⟨-, -, -, w⟩ <;> exact w
  have hR1 : HR m1 := by rcases h1 with ⟨-, w, -⟩ | ⟨-, w, -⟩ <;> exact w
  have hS2 : SR m2 := by rcases h2 with ⟨-, w, -⟩ | ⟨-, w, -⟩ <;> exact w
  obtain ⟨he, hMI, hS1⟩ := MD_tell hI h1
  have ec : (tellC m1 t n) ↔ (tellC mem t n) := by rw [ovr_ex he]; exact Iff.rfl
  by_cases hc : tellC mem t n
  · rw [if_pos hc] at h3
    have h4 : m2 = tellM m1 t n x := by
      rcases h2 with ⟨-, -, -, w⟩ | ⟨-, -, -, w⟩ <;> exact w.trans (if_pos (ec.mpr hc))
    have e1 : v1 = 1 := by
      rcases h1 with ⟨w, -⟩ | ⟨-, -, w, -⟩
      · exact w
      · exact absurd (w.mpr hc) (fun u => u)
    have e2 : v2 = 1 := by
      rcases h2 with ⟨w, -⟩ | ⟨-, -, w, -⟩
      · exact w
      · exact absurd (w.mpr (ec.mpr hc)) (fun u => u)
    have ha : 101 ≤ mem (mem (mem 32 1) t) 1 := (hI.g32.2.2.2 t (by omega) (by omega)).2.2.2.1.2.2.1
    have hq := hI.ots.2.2 t (by omega) (by omega)
    have hq2 := (hI.pgs.2.2 (mem 94 t) (by omega) (by omega)).2.2.2.2.2.1
    have hGr := GRP.tell (x := x) hI (t := t) (n := n) (by omega) (by omega)
    refine ⟨e1.trans e2.symm, tg, ?_, ?_⟩
    · have hG : GRP kd ln m1 sz tg (tellM mem t n x) := by rw [h3]; exact hGr
      refine hI.fin EXT.rf hR1 (hI.eb.of7 (fun j => by rw [h3]; exact s2_a (by omega))) hG (fun a j q => by rw [h4]; unfold tellM; rw [s2_a (by omega), s2_a (by omega)]) (fun a j q => by rw [h4]; unfold tellM set2; rw [he a _ q]) (by rw [h4]; exact hMI.k_tell t n x ⟨hc.1.1, by rw [he 35 84 (by omega)]; omega, hc.2.1, by omega⟩) hS2
    · rw [h4]; exact (show Z47 m1 from hz.eqs he)
  · rw [if_neg hc] at h3
    subst h3
    have h4 : m2 = m1 := by
      rcases h2 with ⟨-, -, -, w⟩ | ⟨-, -, -, w⟩ <;> exact w.trans (if_neg hc)
    have e1 : v1 = 0 := by
      rcases h1 with ⟨-, -, w, -⟩ | ⟨w, -⟩
      · exact absurd (w.mp trivial) hc
      · exact w
    have e2 : v2 = 0 := by
      rcases h2 with ⟨-, -, w, -⟩ | ⟨w, -⟩
      · exact absurd (w.mp trivial) hc
      · exact w
    exact ⟨e1.trans e2.symm, tg, by rw [h4]; exact hI, by rw [h4]; exact hz⟩
theorem MD_apply {kd : Int → Nat} {ln : Int → Int} {mem m1 : Int → Int → Int} {sz : Nat} {tg : Int → Int} {c e : Int} {v1 : Int} (hI : INV kd ln mem sz tg) (h1 : HR m1 ∧ ((¬ appC mem c e → v1 = 2 ∧ m1 = mem) ∧ (appC mem c e → ¬ wL (mem 89 (40 * c + mem 91 e)) = wL (mem 92 e) → v1 = 1 ∧ m1 = mem) ∧ (appC mem c e → wL (mem 89 (40 * c + mem 91 e)) = wL (mem 92 e) → v1 = 0 ∧ m1 = set2 mem (mem (mem (mem 31 1) c) 1) (mem 91 e) (mem 93 e)))) : EQS mem m1 ∧ MI m1 ∧ SR m1 := by
  refine MI.aft hI (fun r0 k0 q1 q2 => ?_)
  obtain ⟨-, h1a, h1b, h1c⟩ := h1
  by_cases hc : appC mem c e
  · by_cases hw : wL (mem 89 (40 * c + mem 91 e)) = wL (mem 92 e)
    · rw [(h1c hc hw).2]
      have ha : 101 ≤ mem (mem (mem 31 1) c) 1 := (hI.g31.2.2.2 c (by omega) (by omega)).2.2.2.1.2.2.1
      exact s2_a (by omega)
    · rw [(h1b hc hw).2]
  · rw [(h1a hc).2]
theorem ST_apply {kd : Int → Nat} {ln : Int → Int} {mem m1 m2 : Int → Int → Int} {sz : Nat} {tg : Int → Int} {c e : Int} {v1 v2 : Int} (hI : INV kd ln mem sz tg) (hz : Z47 mem) (h1 : HR m1 ∧ ((¬ appC mem c e → v1 = 2 ∧ m1 = mem) ∧ (appC mem c e → ¬ wL (mem 89 (40 * c + mem 91 e)) = wL (mem 92 e) → v1 = 1 ∧ m1 = mem) ∧ (appC mem c e → wL (mem 89 (40 * c + mem 91 e)) = wL (mem 92 e) → v1 = 0 ∧ m1 = set2 mem (mem (mem (mem 31 1) c) 1) (mem 91 e) (mem 93 e)))) (h2 : SR m2 ∧ ((¬ appC m1 c e → v2 = 2 ∧ m2 = m1) ∧ (appC m1 c e → ¬ wL (m1 89 (40 * c + m1 91 e)) = wL (m1 92 e) → v2 = 1 ∧ m2 = m1) ∧ (appC m1 c e → wL (m1 89 (40 * c + m1 91 e)) = wL (m1 92 e) → v2 = 0 ∧ m2 = set2 m1 89 (40 * c + m1 91 e) (m1 93 e)))) : v1 = v2 ∧ LI kd ln m2 sz := by
  obtain ⟨he, hMI, hS1⟩ := MD_apply hI h1
  obtain ⟨hR1, h1a, h1b, h1c⟩ := h1
  obtain ⟨hS2, h2a, h2b, h2c⟩ := h2
  have ec : appC m1 c e ↔ appC mem c e := by rw [ovr_ex he]; exact Iff.rfl
  have ew : wL (m1 89 (40 * c + m1 91 e)) = wL (m1 92 e) ↔ wL (mem 89 (40 * c + mem 91 e)) = wL (mem 92 e) := by rw [ovr_ex he]; exact Iff.rfl
  by_cases hc : appC mem c e
  · by_cases hw : wL (mem 89 (40 * c + mem 91 e)) = wL (mem 92 e)
    · obtain ⟨e1, h3⟩ := h1c hc hw
      obtain ⟨e2, h4⟩ := h2c (ec.mpr hc) (ew.mpr hw)
      have hq := hI.ers.2.2 e (by omega) (by omega)
      have hq2 := (hI.pgs.2.2 (mem 90 e) (by omega) (by omega)).2.2.2.2.2.1
      have ha : 101 ≤ mem (mem (mem 31 1) c) 1 := (hI.g31.2.2.2 c (by omega) (by omega)).2.2.2.1.2.2.1
      have hGr := GRP.apply (x := mem 93 e) hI (c := c) (n := mem 91 e) (by omega) (by omega)
      refine ⟨e1.trans e2.symm, tg, hI.fin EXT.rf hR1 (hI.eb.of7 (fun j => by rw [h3]; exact s2_a (by omega))) (M' := set2 mem 89 (40 * c + mem 91 e) (mem 93 e)) (by rw [h3]; exact hGr) (fun a j q => by rw [h4]; exact s2_a (by omega)) (fun a j q => by rw [h4, he 91 e (by omega), he 93 e (by omega)]; unfold set2; rw [he a _ q]) (by rw [h4]; exact hMI.k_apply _ _) hS2, by rw [h4]; exact (show Z47 m1 from hz.eqs he)⟩
    · obtain ⟨e1, h3⟩ := h1b hc hw
      obtain ⟨e2, h4⟩ := h2b (ec.mpr hc) (fun u => hw (ew.mp u))
      subst h3
      exact ⟨e1.trans e2.symm, tg, by rw [h4]; exact hI, by rw [h4]; exact hz⟩
  · obtain ⟨e1, h3⟩ := h1a hc
    obtain ⟨e2, h4⟩ := h2a (fun u => hc (ec.mp u))
    subst h3
    exact ⟨e1.trans e2.symm, tg, by rw [h4]; exact hI, by rw [h4]; exact hz⟩
theorem MD_function {kd kd1 : Int → Nat} {ln ln1 : Int → Int} {mem m1 : Int → Int → Int} {sz sz1 : Nat} {tg : Int → Int} {s a b : Int} {v1 : Int} (hI : INV kd ln mem sz tg) (hE : EXT kd ln sz kd1 ln1 sz1) (h1 : HR m1 ∧ (((funC mem s a b) → v1 = mem 35 6 ∧ GRX kd1 ln1 m1 sz1 (funM mem s a b)) ∧ (¬ (funC mem s a b) → v1 = -1 ∧ GRX kd1 ln1 m1 sz1 mem) ∧ MKP mem m1)) : SK kd1 ln1 ∧ HK kd1 ln1 ∧ EQS mem m1 ∧ MI m1 ∧ SR m1 := by
  obtain ⟨hR1, -, -, hmk⟩ := h1
  obtain ⟨hk, hB⟩ := hmk
  have hs := hI.1.2.2.2.2.1
  obtain ⟨he, hMI, hS1⟩ := MI.aft hI (fun a j q1 q2 => hk a j q1 (by omega))
  exact ⟨hI.1.1.ext hE hs, hI.1.2.1.ext hE (by omega), he, hMI, hS1⟩
theorem ST_function {kd kd1 : Int → Nat} {ln ln1 : Int → Int} {mem m1 m2 : Int → Int → Int} {sz sz1 : Nat} {tg : Int → Int} {s a b : Int} {v1 v2 : Int} (hI : INV kd ln mem sz tg) (hz : Z47 mem) (hE : EXT kd ln sz kd1 ln1 sz1) (h1 : HR m1 ∧ (((funC mem s a b) → v1 = mem 35 6 ∧ GRX kd1 ln1 m1 sz1 (funM mem s a b)) ∧ (¬ (funC mem s a b) → v1 = -1 ∧ GRX kd1 ln1 m1 sz1 mem) ∧ MKP mem m1)) (h2 : SR m2 ∧ ((funC m1 s a b → v2 = m1 35 6 ∧ m2 = funM m1 s a b) ∧ (¬ funC m1 s a b → v2 = -1 ∧ m2 = m1))) : v1 = v2 ∧ LI kd1 ln1 m2 sz1 := by
  obtain ⟨hSK, hHK, he, hMI, hS1⟩ := MD_function hI hE h1
  obtain ⟨hR1, h1c, h1n, hmk⟩ := h1
  obtain ⟨hk, hB⟩ := hmk
  have ec : (funC m1 s a b) ↔ (funC mem s a b) := by rw [ovr_ex he]; exact Iff.rfl
  by_cases hc : funC mem s a b
  · obtain ⟨e1, tg1, hG⟩ := h1c hc
    obtain ⟨e2, h4⟩ := h2.2.1 (ec.mpr hc)
    have eN := he 35 6 (by omega)
    exact ⟨e1.trans (eN.symm.trans e2.symm), tg1, hI.fin hE hR1 hB hG (fun a j q => by rw [h4]; unfold funM; rw [s2_a (by omega), s2_a (by omega), s2_a (by omega), s2_a (by omega)]) (fun a j q => by rw [h4]; unfold funM; rw [eN]; unfold set2; rw [he _ _ q]) (by rw [h4]; exact hMI.k_func s a b (ec.mpr hc)) h2.1, by rw [h4]; exact (show Z47 m1 from hz.eqs he)⟩
  · obtain ⟨e1, tg1, hG⟩ := h1n hc
    obtain ⟨e2, h4⟩ := h2.2.2 (fun u => hc (ec.mp u))
    exact ⟨e1.trans e2.symm, tg1, hI.fin hE hR1 hB hG (fun a j q => by rw [h4]) (by rw [h4]; exact he) (by rw [h4]; exact hMI) h2.1, by rw [h4]; exact (show Z47 m1 from hz.eqs he)⟩
theorem MD_sheet {kd kd1 : Int → Nat} {ln ln1 : Int → Int} {mem m1 : Int → Int → Int} {sz sz1 : Nat} {tg : Int → Int} {k : Int} {v1 : Int} (hI : INV kd ln mem sz tg) (hE : EXT kd ln sz kd1 ln1 sz1) (h1 : HR m1 ∧ ((((0 ≤ k ∧ k ≤ 2) ∧ mem 35 88 ≠ 8) → v1 = mem 35 88 ∧ GRX kd1 ln1 m1 sz1 (set2 (set2 mem 97 (mem 35 88) k) 35 88 (mem 35 88 + 1))) ∧ (¬ ((0 ≤ k ∧ k ≤ 2) ∧ mem 35 88 ≠ 8) → v1 = -1 ∧ GRX kd1 ln1 m1 sz1 mem) ∧ MKP mem m1)) : SK kd1 ln1 ∧ HK kd1 ln1 ∧ EQS mem m1 ∧ MI m1 ∧ SR m1 := by
  obtain ⟨hR1, -, -, hmk⟩ := h1
  obtain ⟨hk, hB⟩ := hmk
  have hs := hI.1.2.2.2.2.1
  obtain ⟨he, hMI, hS1⟩ := MI.aft hI (fun a j q1 q2 => hk a j q1 (by omega))
  exact ⟨hI.1.1.ext hE hs, hI.1.2.1.ext hE (by omega), he, hMI, hS1⟩
theorem ST_sheet {kd kd1 : Int → Nat} {ln ln1 : Int → Int} {mem m1 m2 : Int → Int → Int} {sz sz1 : Nat} {tg : Int → Int} {k : Int} {v1 v2 : Int} (hI : INV kd ln mem sz tg) (hz : Z47 mem) (hE : EXT kd ln sz kd1 ln1 sz1) (h1 : HR m1 ∧ ((((0 ≤ k ∧ k ≤ 2) ∧ mem 35 88 ≠ 8) → v1 = mem 35 88 ∧ GRX kd1 ln1 m1 sz1 (set2 (set2 mem 97 (mem 35 88) k) 35 88 (mem 35 88 + 1))) ∧ (¬ ((0 ≤ k ∧ k ≤ 2) ∧ mem 35 88 ≠ 8) → v1 = -1 ∧ GRX kd1 ln1 m1 sz1 mem) ∧ MKP mem m1)) (h2 : SR m2 ∧ ((((0 ≤ k ∧ k ≤ 2) ∧ m1 35 88 ≠ 8) → v2 = m1 35 88 ∧ m2 = set2 (set2 m1 97 (m1 35 88) k) 35 88 (m1 35 88 + 1)) ∧ (¬ ((0 ≤ k ∧ k ≤ 2) ∧ m1 35 88 ≠ 8) → v2 = -1 ∧ m2 = m1))) : v1 = v2 ∧ LI kd1 ln1 m2 sz1 := by
  obtain ⟨hSK, hHK, he, hMI, hS1⟩ := MD_sheet hI hE h1
  obtain ⟨hR1, h1c, h1n, hmk⟩ := h1
  obtain ⟨hk, hB⟩ := hmk
  have ec : ((0 ≤ k ∧ k ≤ 2) ∧ m1 35 88 ≠ 8) ↔ ((0 ≤ k ∧ k ≤ 2) ∧ mem 35 88 ≠ 8) := by rw [ovr_ex he]; exact Iff.rfl
  by_cases hc : (0 ≤ k ∧ k ≤ 2) ∧ mem 35 88 ≠ 8
  · obtain ⟨e1, tg1, hG⟩ := h1c hc
    obtain ⟨e2, h4⟩ := h2.2.1 (ec.mpr hc)
    have eN := he 35 88 (by omega)
    exact ⟨e1.trans (eN.symm.trans e2.symm), tg1, hI.fin hE hR1 hB hG (fun a j q => by rw [h4]; rw [s2_a (by omega), s2_a (by omega)]) (fun a j q => by rw [h4]; rw [eN]; unfold set2; rw [he _ _ q]) (by rw [h4]; exact hMI.k_sheet k (ec.mpr hc)) h2.1, by rw [h4]; exact (show Z47 m1 from hz.eqs he)⟩
  · obtain ⟨e1, tg1, hG⟩ := h1n hc
    obtain ⟨e2, h4⟩ := h2.2.2 (fun u => hc (ec.mp u))
    exact ⟨e1.trans e2.symm, tg1, hI.fin hE hR1 hB hG (fun a j q => by rw [h4]) (by rw [h4]; exact he) (by rw [h4]; exact hMI) h2.1, by rw [h4]; exact (show Z47 m1 from hz.eqs he)⟩
theorem MD_other {kd kd1 : Int → Nat} {ln ln1 : Int → Int} {mem m1 : Int → Int → Int} {sz sz1 : Nat} {tg : Int → Int} {p : Int} {v1 : Int} (hI : INV kd ln mem sz tg) (hE : EXT kd ln sz kd1 ln1 sz1) (h1 : HR m1 ∧ (((isPg mem p ∧ mem 35 84 ≠ 8) → v1 = mem 35 84 ∧ GRX kd1 ln1 m1 sz1 (set2 (set2 mem 94 (mem 35 84) p) 35 84 (mem 35 84 + 1))) ∧ (¬ (isPg mem p ∧ mem 35 84 ≠ 8) → v1 = -1 ∧ GRX kd1 ln1 m1 sz1 mem) ∧ MKP mem m1)) : SK kd1 ln1 ∧ HK kd1 ln1 ∧ EQS mem m1 ∧ MI m1 ∧ SR m1 := by
  obtain ⟨hR1, -, -, hmk⟩ := h1
  obtain ⟨hk, hB⟩ := hmk
  have hs := hI.1.2.2.2.2.1
  obtain ⟨he, hMI, hS1⟩ := MI.aft hI (fun a j q1 q2 => hk a j q1 (by omega))
  exact ⟨hI.1.1.ext hE hs, hI.1.2.1.ext hE (by omega), he, hMI, hS1⟩
theorem ST_other {kd kd1 : Int → Nat} {ln ln1 : Int → Int} {mem m1 m2 : Int → Int → Int} {sz sz1 : Nat} {tg : Int → Int} {p : Int} {v1 v2 : Int} (hI : INV kd ln mem sz tg) (hz : Z47 mem) (hE : EXT kd ln sz kd1 ln1 sz1) (h1 : HR m1 ∧ (((isPg mem p ∧ mem 35 84 ≠ 8) → v1 = mem 35 84 ∧ GRX kd1 ln1 m1 sz1 (set2 (set2 mem 94 (mem 35 84) p) 35 84 (mem 35 84 + 1))) ∧ (¬ (isPg mem p ∧ mem 35 84 ≠ 8) → v1 = -1 ∧ GRX kd1 ln1 m1 sz1 mem) ∧ MKP mem m1)) (h2 : SR m2 ∧ (((isPg m1 p ∧ m1 35 84 ≠ 8) → v2 = m1 35 84 ∧ m2 = set2 (set2 m1 94 (m1 35 84) p) 35 84 (m1 35 84 + 1)) ∧ (¬ (isPg m1 p ∧ m1 35 84 ≠ 8) → v2 = -1 ∧ m2 = m1))) : v1 = v2 ∧ LI kd1 ln1 m2 sz1 := by
  obtain ⟨hSK, hHK, he, hMI, hS1⟩ := MD_other hI hE h1
  obtain ⟨hR1, h1c, h1n, hmk⟩ := h1
  obtain ⟨hk, hB⟩ := hmk
  have ec : (isPg m1 p ∧ m1 35 84 ≠ 8) ↔ (isPg mem p ∧ mem 35 84 ≠ 8) := by rw [ovr_ex he]; exact Iff.rfl
  by_cases hc : isPg mem p ∧ mem 35 84 ≠ 8
  · obtain ⟨e1, tg1, hG⟩ := h1c hc
    obtain ⟨e2, h4⟩ := h2.2.1 (ec.mpr hc)
    have eN := he 35 84 (by omega)
    exact ⟨e1.trans (eN.symm.trans e2.symm), tg1, hI.fin hE hR1 hB hG (fun a j q => by rw [h4]; rw [s2_a (by omega), s2_a (by omega)]) (fun a j q => by rw [h4]; rw [eN]; unfold set2; rw [he _ _ q]) (by rw [h4]; exact hMI.k_other p (ec.mpr hc)) h2.1, by rw [h4]; exact (show Z47 m1 from hz.eqs he)⟩
  · obtain ⟨e1, tg1, hG⟩ := h1n hc
    obtain ⟨e2, h4⟩ := h2.2.2 (fun u => hc (ec.mp u))
    exact ⟨e1.trans e2.symm, tg1, hI.fin hE hR1 hB hG (fun a j q => by rw [h4]) (by rw [h4]; exact he) (by rw [h4]; exact hMI) h2.1, by rw [h4]; exact (show Z47 m1 from hz.eqs he)⟩
theorem MD_erratum {kd kd1 : Int → Nat} {ln ln1 : Int → Int} {mem m1 : Int → Int → Int} {sz sz1 : Nat} {tg : Int → Int} {p n o w : Int} {v1 : Int} (hI : INV kd ln mem sz tg) (hE : EXT kd ln sz kd1 ln1 sz1) (h1 : HR m1 ∧ (((errC mem p n) → v1 = mem 35 80 ∧ GRX kd1 ln1 m1 sz1 (errM mem p n o w)) ∧ (¬ (errC mem p n) → v1 = -1 ∧ GRX kd1 ln1 m1 sz1 mem) ∧ MKP mem m1)) : SK kd1 ln1 ∧ HK kd1 ln1 ∧ EQS mem m1 ∧ MI m1 ∧ SR m1 := by
  obtain ⟨hR1, -, -, hmk⟩ := h1
  obtain ⟨hk, hB⟩ := hmk
  have hs := hI.1.2.2.2.2.1
  obtain ⟨he, hMI, hS1⟩ := MI.aft hI (fun a j q1 q2 => hk a j q1 (by omega))
  exact ⟨hI.1.1.ext hE hs, hI.1.2.1.ext hE (by omega), he, hMI, hS1⟩
theorem ST_erratum {kd kd1 : Int → Nat} {ln ln1 : Int → Int} {mem m1 m2 : Int → Int → Int} {sz sz1 : Nat} {tg : Int → Int} {p n o w : Int} {v1 v2 : Int} (hI : INV kd ln mem sz tg) (hz : Z47 mem) (hE : EXT kd ln sz kd1 ln1 sz1) (h1 : HR m1 ∧ (((errC mem p n) → v1 = mem 35 80 ∧ GRX kd1 ln1 m1 sz1 (errM mem p n o w)) ∧ (¬ (errC mem p n) → v1 = -1 ∧ GRX kd1 ln1 m1 sz1 mem) ∧ MKP mem m1)) (h2 : SR m2 ∧ (((errC m1 p n) → v2 = m1 35 80 ∧ m2 = errM m1 p n o w) ∧ (¬ (errC m1 p n) → v2 = -1 ∧ m2 = m1))) : v1 = v2 ∧ LI kd1 ln1 m2 sz1 := by
  obtain ⟨hSK, hHK, he, hMI, hS1⟩ := MD_erratum hI hE h1
  obtain ⟨hR1, h1c, h1n, hmk⟩ := h1
  obtain ⟨hk, hB⟩ := hmk
  have ec : (errC m1 p n) ↔ (errC mem p n) := by rw [ovr_ex he]; exact Iff.rfl
  by_cases hc : errC mem p n
  · obtain ⟨e1, tg1, hG⟩ := h1c hc
    obtain ⟨e2, h4⟩ := h2.2.1 (ec.mpr hc)
    have eN := he 35 80 (by omega)
    exact ⟨e1.trans (eN.symm.trans e2.symm), tg1, hI.fin hE hR1 hB hG (fun a j q => by rw [h4]; unfold errM; rw [s2_a (by omega), s2_a (by omega), s2_a (by omega), s2_a (by omega), s2_a (by omega)]) (fun a j q => by rw [h4]; unfold errM; rw [eN]; unfold set2; rw [he _ _ q]) (by rw [h4]; exact hMI.k_err p n o w (ec.mpr hc)) h2.1, by rw [h4]; exact (show Z47 m1 from hz.eqs he)⟩
  · obtain ⟨e1, tg1, hG⟩ := h1n hc
    obtain ⟨e2, h4⟩ := h2.2.2 (fun u => hc (ec.mp u))
    exact ⟨e1.trans e2.symm, tg1, hI.fin hE hR1 hB hG (fun a j q => by rw [h4]) (by rw [h4]; exact he) (by rw [h4]; exact hMI) h2.1, by rw [h4]; exact (show Z47 m1 from hz.eqs he)⟩
theorem MD_slip {kd kd1 : Int → Nat} {ln ln1 : Int → Int} {mem m1 : Int → Int → Int} {sz sz1 : Nat} {tg : Int → Int} {p n c w : Int} {v1 : Int} (hI : INV kd ln mem sz tg) (hE : EXT kd ln sz kd1 ln1 sz1) (h1 : HR m1 ∧ (((slipC mem p n c w) → v1 = mem 35 45 ∧ GRX kd1 ln1 m1 sz1 (slipM mem p n c w)) ∧ (¬ (slipC mem p n c w) → v1 = -1 ∧ GRX kd1 ln1 m1 sz1 mem) ∧ MKP mem m1)) : SK kd1 ln1 ∧ HK kd1 ln1 ∧ EQS mem m1 ∧ MI m1 ∧ SR m1 := by
  obtain ⟨hR1, -, -, hmk⟩ := h1
  obtain ⟨hk, hB⟩ := hmk
  have hs := hI.1.2.2.2.2.1
  obtain ⟨he, hMI, hS1⟩ := MI.aft hI (fun a j q1 q2 => hk a j q1 (by omega))
  exact ⟨hI.1.1.ext hE hs, hI.1.2.1.ext hE (by omega), he, hMI, hS1⟩
theorem ST_slip {kd kd1 : Int → Nat} {ln ln1 : Int → Int} {mem m1 m2 : Int → Int → Int} {sz sz1 : Nat} {tg : Int → Int} {p n c w : Int} {v1 v2 : Int} (hI : INV kd ln mem sz tg) (hz : Z47 mem) (hE : EXT kd ln sz kd1 ln1 sz1) (h1 : HR m1 ∧ (((slipC mem p n c w) → v1 = mem 35 45 ∧ GRX kd1 ln1 m1 sz1 (slipM mem p n c w)) ∧ (¬ (slipC mem p n c w) → v1 = -1 ∧ GRX kd1 ln1 m1 sz1 mem) ∧ MKP mem m1)) (h2 : SR m2 ∧ ((slipC m1 p n c w → v2 = m1 35 45 ∧ m2 = slipM m1 p n c w) ∧ (¬ slipC m1 p n c w → v2 = -1 ∧ m2 = m1))) : v1 = v2 ∧ LI kd1 ln1 m2 sz1 := by
  obtain ⟨hSK, hHK, he, hMI, hS1⟩ := MD_slip hI hE h1
  obtain ⟨hR1, h1c, h1n, hmk⟩ := h1
  obtain ⟨hk, hB⟩ := hmk
  have ec : (slipC m1 p n c w) ↔ (slipC mem p n c w) := by rw [ovr_ex he]; exact Iff.rfl
  by_cases hc : slipC mem p n c w
  · obtain ⟨e1, tg1, hG⟩ := h1c hc
    obtain ⟨e2, h4⟩ := h2.2.1 (ec.mpr hc)
    have eN := he 35 45 (by omega)
    exact ⟨e1.trans (eN.symm.trans e2.symm), tg1, hI.fin hE hR1 hB hG (fun a j q => by rw [h4]; unfold slipM; rw [s2_a (by omega), s2_a (by omega), s2_a (by omega), s2_a (by omega), s2_a (by omega), s2_a (by omega), s2_a (by omega)]) (fun a j q => by rw [h4]; unfold slipM; rw [eN, he 35 0 (by omega)]; unfold set2; rw [he _ _ q]) (by rw [h4]; exact hMI.k_slip p n c w (ec.mpr hc)) h2.1, by rw [h4]; exact (show Z47 m1 from hz.eqs he)⟩
  · obtain ⟨e1, tg1, hG⟩ := h1n hc
    obtain ⟨e2, h4⟩ := h2.2.2 (fun u => hc (ec.mp u))
    exact ⟨e1.trans e2.symm, tg1, hI.fin hE hR1 hB hG (fun a j q => by rw [h4]) (by rw [h4]; exact he) (by rw [h4]; exact hMI) h2.1, by rw [h4]; exact (show Z47 m1 from hz.eqs he)⟩
end STEPS
