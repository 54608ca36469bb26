section
section WRITES
set_option maxHeartbeats 4000000 in
theorem GRP.own30 {kd : Int → Nat} {ln : Int → Int} {mem mem2 M M' : Int → Int → Int} {sz : Nat} {tg : Int → Int} (h : GRP kd ln mem sz tg M) (hMI : MI M) (hs : 101 ≤ sz) (hAA : ∀ L' : Int, 3 ≤ L' → L' ≤ 34 → L' ≠ 30 → AG sz tg mem mem2 L') (he : ∀ x j : Int, SC x j → ¬ (x = 68) → M' x j = M x j) (hL : LSG kd ln mem2 sz tg 30 (M' 35 45) 10 (O30 mem2 M')) : GRP kd ln mem2 sz tg M' := by
  obtain ⟨h0, h27, h28, h29, h30, h31, h32, h33, h34⟩ := h
  obtain ⟨-, -, -, -, -, hPS, hPF, hSL, -, -, -, -, -, -, -, -, -, -, hCP, -⟩ := id hMI
  have eT : EXT kd ln sz kd ln sz := EXT.rf
  have htg : TGX sz tg tg := fun _ _ => rfl
  have hl27 := h27.len
  have hl28 := h28.len
  have hl29 := h29.len
  have hl30 := h30.len
  have hl31 := h31.len
  have hl32 := h32.len
  have hl33 := h33.len
  have hl34 := h34.len
  have f3 : mem2 3 = mem 3 := (hAA 3 (by decide) (by decide) (by decide)).1
  have f4 : mem2 4 = mem 4 := (hAA 4 (by decide) (by decide) (by decide)).1
  have f5 : mem2 5 = mem 5 := (hAA 5 (by decide) (by decide) (by decide)).1
  have f6 : mem2 6 = mem 6 := (hAA 6 (by decide) (by decide) (by decide)).1
  have hob : ∀ (L' i a : Int), OWN sz tg a (L' * 10000 + 100 * (i + 1)) → 27 ≤ L' ∧ L' ≤ 34 ∧ L' ≠ 30 → 0 ≤ i ∧ i ≤ 63 → mem2 a = mem a := fun L' i a q1 q2 q3 => (hAA L' (by omega) (by omega) (by omega)).own q1 (by omega)
  have hPGE : ∀ P : Int, 0 ≤ P → P < M 35 33 → PGE M M' P := fun P q1 q2 => by
    have w1 := hPF P q1 q2
    have w2 := hPS.2.2 P q1 (by omega)
    refine ⟨fun k u1 u2 => he k P (by omega) (by omega), fun k u1 u2 => he k _ (by omega) (by omega), fun k n u1 u2 u3 u4 => he k _ (by omega) (by omega), fun n u1 u2 => ?_, he 82 P (by omega) (by omega), fun n u1 u2 => he 83 _ (by omega) (by omega), fun n j u1 u2 u3 u4 => ?_⟩
    · rw [he 35 45 (by omega) (by omega)]
      exact slB_cg _ (fun s _ _ => ⟨he 63 s (by omega) (by omega), he 64 s (by omega) (by omega)⟩)
    · rw [he 35 72 (by omega) (by omega)]
      exact pvN_cg _ (fun s _ _ => ⟨he 84 s (by omega) (by omega), he 85 s (by omega) (by omega), he 86 s (by omega) (by omega), he 87 s (by omega) (by omega)⟩)
  refine ⟨?_, ?_, ?_, ?_, ?_, ?_, ?_, ?_, ?_⟩
  · obtain ⟨⟨g1, g2, g3, g4, g5, g6⟩, g7, g8, g9, g10⟩ := h0
    unfold RN
    rw [f3, f4, f5, f6]
    refine ⟨⟨?_, ?_, ?_, ?_, ?_, ?_⟩, fun x y q1 q2 q3 q4 => ?_, ?_, ?_, g10⟩
    · rw [he 35 0 (by omega) (by omega)]; exact g1
    · rw [he 35 2 (by omega) (by omega)]; exact g2
    · rw [he 35 46 (by omega) (by omega)]; exact g3
    · rw [he 35 89 (by omega) (by omega)]; exact g4
    · rw [he 35 72 (by omega) (by omega)]; exact g5
    · rw [he 35 65 (by omega) (by omega)]; exact g6
    · rw [g7 x y q1 q2 q3 q4]
      unfold leftV leftW
      rw [he 35 65 (by omega) (by omega), lsN_cg _ (fun s _ _ => ⟨he 77 s (by omega) (by omega), he 78 s (by omega) (by omega)⟩), he 79 _ (by omega) (by omega), he 80 _ (by omega) (by omega), he 81 _ (by omega) (by omega)]
    · rw [he 35 11 (by omega) (by omega)]; exact g8
    · rw [g9]; exact (funext fun j => he 39 j (by omega) (by omega)).symm
  · exact h27.fr eT htg (hAA 27 (by decide) (by decide) (by decide)) (by omega) (he 35 6 (by omega) (by omega)) (fun i a q1 q2 q3 q4 => q4.tr (hob 27 i a q3 (by omega) (by omega)) (he 36 i (by omega) (by omega)) (he 37 i (by omega) (by omega)) (he 38 i (by omega) (by omega)))
  · exact h28.fr eT htg (hAA 28 (by decide) (by decide) (by decide)) (by omega) (he 35 16 (by omega) (by omega)) (fun i a q1 q2 q3 q4 => q4.tr eT htg ⟨q1, by omega⟩ (hAA 28 (by decide) (by decide) (by decide)).r (hob 28 i a q3 (by omega) (by omega)) (Or.inl (funext fun j => he 41 j (by omega) (by omega))) (he 42 i (by omega) (by omega)))
  · exact h29.fr eT htg (hAA 29 (by decide) (by decide) (by decide)) (by omega) (he 35 33 (by omega) (by omega)) (fun i a q1 q2 q3 q4 => q4.tr eT htg ⟨q1, by omega⟩ (hAA 29 (by decide) (by decide) (by decide)).r (hob 29 i a q3 (by omega) (by omega)) (hPGE i q1 q2))
  · exact hL
  · exact h31.fr eT htg (hAA 31 (by decide) (by decide) (by decide)) (by omega) (he 35 79 (by omega) (by omega)) (fun i a q1 q2 q3 q4 => q4.tr eT htg ⟨q1, by omega⟩ (hAA 31 (by decide) (by decide) (by decide)).r (hob 31 i a q3 (by omega) (by omega)) (he 88 i (by omega) (by omega)) (by have := hCP.2.2 i q1 (by omega); exact he 47 _ (by omega) (by omega)) (fun n w1 w2 => by have := hCP.2.2 i q1 (by omega); have := hPS.2.2 (M 88 i) (by omega) (by omega); exact he 89 _ (by omega) (by omega)))
  · exact h32.fr eT htg (hAA 32 (by decide) (by decide) (by decide)) (by omega) (he 35 84 (by omega) (by omega)) (fun i a q1 q2 q3 q4 => q4.tr eT htg ⟨q1, by omega⟩ (hAA 32 (by decide) (by decide) (by decide)).r (hob 32 i a q3 (by omega) (by omega)) (he 94 i (by omega) (by omega)) (fun n w1 w2 => ⟨he 95 _ (by omega) (by omega), he 96 _ (by omega) (by omega)⟩))
  · exact h33.fr eT htg (hAA 33 (by decide) (by decide) (by decide)) (by omega) (he 35 80 (by omega) (by omega)) (fun i a q1 q2 q3 q4 => q4.tr (hob 33 i a q3 (by omega) (by omega)) (fun k w1 w2 => he k i (by omega) (by omega)))
  · exact h34.fr eT htg (hAA 34 (by decide) (by decide) (by decide)) (by omega) (he 35 88 (by omega) (by omega)) (fun i a q1 q2 q3 q4 => q4.tr eT htg ⟨q1, by omega⟩ (hAA 34 (by decide) (by decide) (by decide)).r (hob 34 i a q3 (by omega) (by omega)) (he 97 i (by omega) (by omega)) (he 98 i (by omega) (by omega)) (fun n w1 w2 => he 99 _ (by omega) (by omega)))
set_option maxHeartbeats 4000000 in
theorem GRP.own31 {kd : Int → Nat} {ln : Int → Int} {mem mem2 M M' : Int → Int → Int} {sz : Nat} {tg : Int → Int} (h : GRP kd ln mem sz tg M) (hMI : MI M) (hs : 101 ≤ sz) (hAA : ∀ L' : Int, 3 ≤ L' → L' ≤ 34 → L' ≠ 31 → AG sz tg mem mem2 L') (he : ∀ x j : Int, SC x j → ¬ (x = 89) → M' x j = M x j) (hL : LSG kd ln mem2 sz tg 31 (M' 35 79) 11 (O31 kd ln mem2 sz tg M')) : GRP kd ln mem2 sz tg M' := by
  obtain ⟨h0, h27, h28, h29, h30, h31, h32, h33, h34⟩ := h
  obtain ⟨-, -, -, -, -, hPS, hPF, hSL, -, -, -, -, -, -, -, -, -, -, hCP, -⟩ := id hMI
  have eT : EXT kd ln sz kd ln sz := EXT.rf
  have htg : TGX sz tg tg := fun _ _ => rfl
  have hl27 := h27.len
  have hl28 := h28.len
  have hl29 := h29.len
  have hl30 := h30.len
  have hl31 := h31.len
  have hl32 := h32.len
  have hl33 := h33.len
  have hl34 := h34.len
  have f3 : mem2 3 = mem 3 := (hAA 3 (by decide) (by decide) (by decide)).1
  have f4 : mem2 4 = mem 4 := (hAA 4 (by decide) (by decide) (by decide)).1
  have f5 : mem2 5 = mem 5 := (hAA 5 (by decide) (by decide) (by decide)).1
  have f6 : mem2 6 = mem 6 := (hAA 6 (by decide) (by decide) (by decide)).1
  have hob : ∀ (L' i a : Int), OWN sz tg a (L' * 10000 + 100 * (i + 1)) → 27 ≤ L' ∧ L' ≤ 34 ∧ L' ≠ 31 → 0 ≤ i ∧ i ≤ 63 → mem2 a = mem a := fun L' i a q1 q2 q3 => (hAA L' (by omega) (by omega) (by omega)).own q1 (by omega)
  have hPGE : ∀ P : Int, 0 ≤ P → P < M 35 33 → PGE M M' P := fun P q1 q2 => by
    have w1 := hPF P q1 q2
    have w2 := hPS.2.2 P q1 (by omega)
    refine ⟨fun k u1 u2 => he k P (by omega) (by omega), fun k u1 u2 => he k _ (by omega) (by omega), fun k n u1 u2 u3 u4 => he k _ (by omega) (by omega), fun n u1 u2 => ?_, he 82 P (by omega) (by omega), fun n u1 u2 => he 83 _ (by omega) (by omega), fun n j u1 u2 u3 u4 => ?_⟩
    · rw [he 35 45 (by omega) (by omega)]
      exact slB_cg _ (fun s _ _ => ⟨he 63 s (by omega) (by omega), he 64 s (by omega) (by omega)⟩)
    · rw [he 35 72 (by omega) (by omega)]
      exact pvN_cg _ (fun s _ _ => ⟨he 84 s (by omega) (by omega), he 85 s (by omega) (by omega), he 86 s (by omega) (by omega), he 87 s (by omega) (by omega)⟩)
  refine ⟨?_, ?_, ?_, ?_, ?_, ?_, ?_, ?_, ?_⟩
  · obtain ⟨⟨g1, g2, g3, g4, g5, g6⟩, g7, g8, g9, g10⟩ := h0
    unfold RN
    rw [f3, f4, f5, f6]
    refine ⟨⟨?_, ?_, ?_, ?_, ?_, ?_⟩, fun x y q1 q2 q3 q4 => ?_, ?_, ?_, g10⟩
    · rw [he 35 0 (by omega) (by omega)]; exact g1
    · rw [he 35 2 (by omega) (by omega)]; exact g2
    · rw [he 35 46 (by omega) (by omega)]; exact g3
    · rw [he 35 89 (by omega) (by omega)]; exact g4
    · rw [he 35 72 (by omega) (by omega)]; exact g5
    · rw [he 35 65 (by omega) (by omega)]; exact g6
    · rw [g7 x y q1 q2 q3 q4]
      unfold leftV leftW
      rw [he 35 65 (by omega) (by omega), lsN_cg _ (fun s _ _ => ⟨he 77 s (by omega) (by omega), he 78 s (by omega) (by omega)⟩), he 79 _ (by omega) (by omega), he 80 _ (by omega) (by omega), he 81 _ (by omega) (by omega)]
    · rw [he 35 11 (by omega) (by omega)]; exact g8
    · rw [g9]; exact (funext fun j => he 39 j (by omega) (by omega)).symm
  · exact h27.fr eT htg (hAA 27 (by decide) (by decide) (by decide)) (by omega) (he 35 6 (by omega) (by omega)) (fun i a q1 q2 q3 q4 => q4.tr (hob 27 i a q3 (by omega) (by omega)) (he 36 i (by omega) (by omega)) (he 37 i (by omega) (by omega)) (he 38 i (by omega) (by omega)))
  · exact h28.fr eT htg (hAA 28 (by decide) (by decide) (by decide)) (by omega) (he 35 16 (by omega) (by omega)) (fun i a q1 q2 q3 q4 => q4.tr eT htg ⟨q1, by omega⟩ (hAA 28 (by decide) (by decide) (by decide)).r (hob 28 i a q3 (by omega) (by omega)) (Or.inl (funext fun j => he 41 j (by omega) (by omega))) (he 42 i (by omega) (by omega)))
  · exact h29.fr eT htg (hAA 29 (by decide) (by decide) (by decide)) (by omega) (he 35 33 (by omega) (by omega)) (fun i a q1 q2 q3 q4 => q4.tr eT htg ⟨q1, by omega⟩ (hAA 29 (by decide) (by decide) (by decide)).r (hob 29 i a q3 (by omega) (by omega)) (hPGE i q1 q2))
  · exact h30.fr eT htg (hAA 30 (by decide) (by decide) (by decide)) (by omega) (he 35 45 (by omega) (by omega)) (fun i a q1 q2 q3 q4 => q4.tr (hob 30 i a q3 (by omega) (by omega)) (fun k w1 w2 => he k i (by omega) (by omega)))
  · exact hL
  · exact h32.fr eT htg (hAA 32 (by decide) (by decide) (by decide)) (by omega) (he 35 84 (by omega) (by omega)) (fun i a q1 q2 q3 q4 => q4.tr eT htg ⟨q1, by omega⟩ (hAA 32 (by decide) (by decide) (by decide)).r (hob 32 i a q3 (by omega) (by omega)) (he 94 i (by omega) (by omega)) (fun n w1 w2 => ⟨he 95 _ (by omega) (by omega), he 96 _ (by omega) (by omega)⟩))
  · exact h33.fr eT htg (hAA 33 (by decide) (by decide) (by decide)) (by omega) (he 35 80 (by omega) (by omega)) (fun i a q1 q2 q3 q4 => q4.tr (hob 33 i a q3 (by omega) (by omega)) (fun k w1 w2 => he k i (by omega) (by omega)))
  · exact h34.fr eT htg (hAA 34 (by decide) (by decide) (by decide)) (by omega) (he 35 88 (by omega) (by omega)) (fun i a q1 q2 q3 q4 => q4.tr eT htg ⟨q1, by omega⟩ (hAA 34 (by decide) (by decide) (by decide)).r (hob 34 i a q3 (by omega) (by omega)) (he 97 i (by omega) (by omega)) (he 98 i (by omega) (by omega)) (fun n w1 w2 => he 99 _ (by omega) (by omega)))
set_option maxHeartbeats 4000000 in
theorem GRP.own32 {kd : Int → Nat} {ln : Int → Int} {mem mem2 M M' : Int → Int → Int} {sz : Nat} {tg : Int → Int} (h : GRP kd ln mem sz tg M) (hMI : MI M) (hs : 101 ≤ sz) (hAA : ∀ L' : Int, 3 ≤ L' → L' ≤ 34 → L' ≠ 32 → AG sz tg mem mem2 L') (he : ∀ x j : Int, SC x j → ¬ (x = 95 ∨ x = 96) → M' x j = M x j) (hL : LSG kd ln mem2 sz tg 32 (M' 35 84) 11 (O32 kd ln mem2 sz tg M')) : GRP kd ln mem2 sz tg M' := by
  obtain ⟨h0, h27, h28, h29, h30, h31, h32, h33, h34⟩ := h
  obtain ⟨-, -, -, -, -, hPS, hPF, hSL, -, -, -, -, -, -, -, -, -, -, hCP, -⟩ := id hMI
  have eT : EXT kd ln sz kd ln sz := EXT.rf
  have htg : TGX sz tg tg := fun _ _ => rfl
  have hl27 := h27.len
  have hl28 := h28.len
  have hl29 := h29.len
  have hl30 := h30.len
  have hl31 := h31.len
  have hl32 := h32.len
  have hl33 := h33.len
  have hl34 := h34.len
  have f3 : mem2 3 = mem 3 := (hAA 3 (by decide) (by decide) (by decide)).1
  have f4 : mem2 4 = mem 4 := (hAA 4 (by decide) (by decide) (by decide)).1
  have f5 : mem2 5 = mem 5 := (hAA 5 (by decide) (by decide) (by decide)).1
  have f6 : mem2 6 = mem 6 := (hAA 6 (by decide) (by decide) (by decide)).1
  have hob : ∀ (L' i a : Int), OWN sz tg a (L' * 10000 + 100 * (i + 1)) → 27 ≤ L' ∧ L' ≤ 34 ∧ L' ≠ 32 → 0 ≤ i ∧ i ≤ 63 → mem2 a = mem a := fun L' i a q1 q2 q3 => (hAA L' (by omega) (by omega) (by omega)).own q1 (by omega)
  have hPGE : ∀ P : Int, 0 ≤ P → P < M 35 33 → PGE M M' P := fun P q1 q2 => by
    have w1 := hPF P q1 q2
    have w2 := hPS.2.2 P q1 (by omega)
    refine ⟨fun k u1 u2 => he k P (by omega) (by omega), fun k u1 u2 => he k _ (by omega) (by omega), fun k n u1 u2 u3 u4 => he k _ (by omega) (by omega), fun n u1 u2 => ?_, he 82 P (by omega) (by omega), fun n u1 u2 => he 83 _ (by omega) (by omega), fun n j u1 u2 u3 u4 => ?_⟩
    · rw [he 35 45 (by omega) (by omega)]
      exact slB_cg _ (fun s _ _ => ⟨he 63 s (by omega) (by omega), he 64 s (by omega) (by omega)⟩)
    · rw [he 35 72 (by omega) (by omega)]
      exact pvN_cg _ (fun s _ _ => ⟨he 84 s (by omega) (by omega), he 85 s (by omega) (by omega), he 86 s (by omega) (by omega), he 87 s (by omega) (by omega)⟩)
  refine ⟨?_, ?_, ?_, ?_, ?_, ?_, ?_, ?_, ?_⟩
  · obtain ⟨⟨g1, g2, g3, g4, g5, g6⟩, g7, g8, g9, g10⟩ := h0
    unfold RN
    rw [f3, f4, f5, f6]
    refine ⟨⟨?_, ?_, ?_, ?_, ?_, ?_⟩, fun x y q1 q2 q3 q4 => ?_, ?_, ?_, g10⟩
    · rw [he 35 0 (by omega) (by omega)]; exact g1
    · rw [he 35 2 (by omega) (by omega)]; exact g2
    · rw [he 35 46 (by omega) (by omega)]; exact g3
    · rw [he 35 89 (by omega) (by omega)]; exact g4
    · rw [he 35 72 (by omega) (by omega)]; exact g5
    · rw [he 35 65 (by omega) (by omega)]; exact g6
    · rw [g7 x y q1 q2 q3 q4]
      unfold leftV leftW
      rw [he 35 65 (by omega) (by omega), lsN_cg _ (fun s _ _ => ⟨he 77 s (by omega) (by omega), he 78 s (by omega) (by omega)⟩), he 79 _ (by omega) (by omega), he 80 _ (by omega) (by omega), he 81 _ (by omega) (by omega)]
    · rw [he 35 11 (by omega) (by omega)]; exact g8
    · rw [g9]; exact (funext fun j => he 39 j (by omega) (by omega)).symm
  · exact h27.fr eT htg (hAA 27 (by decide) (by decide) (by decide)) (by omega) (he 35 6 (by omega) (by omega)) (fun i a q1 q2 q3 q4 => q4.tr (hob 27 i a q3 (by omega) (by omega)) (he 36 i (by omega) (by omega)) (he 37 i (by omega) (by omega)) (he 38 i (by omega) (by omega)))
  · exact h28.fr eT htg (hAA 28 (by decide) (by decide) (by decide)) (by omega) (he 35 16 (by omega) (by omega)) (fun i a q1 q2 q3 q4 => q4.tr eT htg ⟨q1, by omega⟩ (hAA 28 (by decide) (by decide) (by decide)).r (hob 28 i a q3 (by omega) (by omega)) (Or.inl (funext fun j => he 41 j (by omega) (by omega))) (he 42 i (by omega) (by omega)))
  · exact h29.fr eT htg (hAA 29 (by decide) (by decide) (by decide)) (by omega) (he 35 33 (by omega) (by omega)) (fun i a q1 q2 q3 q4 => q4.tr eT htg ⟨q1, by omega⟩ (hAA 29 (by decide) (by decide) (by decide)).r (hob 29 i a q3 (by omega) (by omega)) (hPGE i q1 q2))
  · exact h30.fr eT htg (hAA 30 (by decide) (by decide) (by decide)) (by omega) (he 35 45 (by omega) (by omega)) (fun i a q1 q2 q3 q4 => q4.tr (hob 30 i a q3 (by omega) (by omega)) (fun k w1 w2 => he k i (by omega) (by omega)))
  · exact h31.fr eT htg (hAA 31 (by decide) (by decide) (by decide)) (by omega) (he 35 79 (by omega) (by omega)) (fun i a q1 q2 q3 q4 => q4.tr eT htg ⟨q1, by omega⟩ (hAA 31 (by decide) (by decide) (by decide)).r (hob 31 i a q3 (by omega) (by omega)) (he 88 i (by omega) (by omega)) (by have := hCP.2.2 i q1 (by omega); exact he 47 _ (by omega) (by omega)) (fun n w1 w2 => by have := hCP.2.2 i q1 (by omega); have := hPS.2.2 (M 88 i) (by omega) (by omega); exact he 89 _ (by omega) (by omega)))
  · exact hL
  · exact h33.fr eT htg (hAA 33 (by decide) (by decide) (by decide)) (by omega) (he 35 80 (by omega) (by omega)) (fun i a q1 q2 q3 q4 => q4.tr (hob 33 i a q3 (by omega) (by omega)) (fun k w1 w2 => he k i (by omega) (by omega)))
  · exact h34.fr eT htg (hAA 34 (by decide) (by decide) (by decide)) (by omega) (he 35 88 (by omega) (by omega)) (fun i a q1 q2 q3 q4 => q4.tr eT htg ⟨q1, by omega⟩ (hAA 34 (by decide) (by decide) (by decide)).r (hob 34 i a q3 (by omega) (by omega)) (he 97 i (by omega) (by omega)) (he 98 i (by omega) (by omega)) (fun n w1 w2 => he 99 _ (by omega) (by omega)))
set_option maxHeartbeats 4000000 in
theorem GRP.own34 {kd : Int → Nat} {ln : Int → Int} {mem mem2 M M' : Int → Int → Int} {sz : Nat} {tg : Int → Int} (h : GRP kd ln mem sz tg M) (hMI : MI M) (hs : 101 ≤ sz) (hAA : ∀ L' : Int, 3 ≤ L' → L' ≤ 34 → L' ≠ 34 → AG sz tg mem mem2 L') (he : ∀ x j : Int, SC x j → ¬ (x = 98 ∨ x = 99) → M' x j = M x j) (hL : LSG kd ln mem2 sz tg 34 (M' 35 88) 9 (O34 kd ln mem2 sz tg M')) : GRP kd ln mem2 sz tg M' := by
  obtain ⟨h0, h27, h28, h29, h30, h31, h32, h33, h34⟩ := h
  obtain ⟨-, -, -, -, -, hPS, hPF, hSL, -, -, -, -, -, -, -, -, -, -, hCP, -⟩ := id hMI
  have eT : EXT kd ln sz kd ln sz := EXT.rf
  have htg : TGX sz tg tg := fun _ _ => rfl
  have hl27 := h27.len
  have hl28 := h28.len
  have hl29 := h29.len
  have hl30 := h30.len
  have hl31 := h31.len
  have hl32 := h32.len
  have hl33 := h33.len
  have hl34 := h34.len
  have f3 : mem2 3 = mem 3 := (hAA 3 (by decide) (by decide) (by decide)).1
  have f4 : mem2 4 = mem 4 := (hAA 4 (by decide) (by decide) (by decide)).1
  have f5 : mem2 5 = mem 5 := (hAA 5 (by decide) (by decide) (by decide)).1
  have f6 : mem2 6 = mem 6 := (hAA 6 (by decide) (by decide) (by decide)).1
  have hob : ∀ (L' i a : Int), OWN sz tg a (L' * 10000 + 100 * (i + 1)) → 27 ≤ L' ∧ L' ≤ 34 ∧ L' ≠ 34 → 0 ≤ i ∧ i ≤ 63 → mem2 a = mem a := fun L' i a q1 q2 q3 => (hAA L' (by omega) (by omega) (by omega)).own q1 (by omega)
  have hPGE : ∀ P : Int, 0 ≤ P → P < M 35 33 → PGE M M' P := fun P q1 q2 => by
    have w1 := hPF P q1 q2
    have w2 := hPS.2.2 P q1 (by omega)
    refine ⟨fun k u1 u2 => he k P (by omega) (by omega), fun k u1 u2 => he k _ (by omega) (by omega), fun k n u1 u2 u3 u4 => he k _ (by omega) (by omega), fun n u1 u2 => ?_, he 82 P (by omega) (by omega), fun n u1 u2 => he 83 _ (by omega) (by omega), fun n j u1 u2 u3 u4 => ?_⟩
    · rw [he 35 45 (by omega) (by omega)]
      exact slB_cg _ (fun s _ _ => ⟨he 63 s (by omega) (by omega), he 64 s (by omega) (by omega)⟩)
    · rw [he 35 72 (by omega) (by omega)]
      exact pvN_cg _ (fun s _ _ => ⟨he 84 s (by omega) (by omega), he 85 s (by omega) (by omega), he 86 s (by omega) (by omega), he 87 s (by omega) (by omega)⟩)
  refine ⟨?_, ?_, ?_, ?_, ?_, ?_, ?_, ?_, ?_⟩
  · obtain ⟨⟨g1, g2, g3, g4, g5, g6⟩, g7, g8, g9, g10⟩ := h0
    unfold RN
    rw [f3, f4, f5, f6]
    refine ⟨⟨?_, ?_, ?_, ?_, ?_, ?_⟩, fun x y q1 q2 q3 q4 => ?_, ?_, ?_, g10⟩
    · rw [he 35 0 (by omega) (by omega)]; exact g1
    · rw [he 35 2 (by omega) (by omega)]; exact g2
    · rw [he 35 46 (by omega) (by omega)]; exact g3
    · rw [he 35 89 (by omega) (by omega)]; exact g4
    · rw [he 35 72 (by omega) (by omega)]; exact g5
    · rw [he 35 65 (by omega) (by omega)]; exact g6
    · rw [g7 x y q1 q2 q3 q4]
      unfold leftV leftW
      rw [he 35 65 (by omega) (by omega), lsN_cg _ (fun s _ _ => ⟨he 77 s (by omega) (by omega), he 78 s (by omega) (by omega)⟩), he 79 _ (by omega) (by omega), he 80 _ (by omega) (by omega), he 81 _ (by omega) (by omega)]
    · rw [he 35 11 (by omega) (by omega)]; exact g8
    · rw [g9]; exact (funext fun j => he 39 j (by omega) (by omega)).symm
  · exact h27.fr eT htg (hAA 27 (by decide) (by decide) (by decide)) (by omega) (he 35 6 (by omega) (by omega)) (fun i a q1 q2 q3 q4 => q4.tr (hob 27 i a q3 (by omega) (by omega)) (he 36 i (by omega) (by omega)) (he 37 i (by omega) (by omega)) (he 38 i (by omega) (by omega)))
  · exact h28.fr eT htg (hAA 28 (by decide) (by decide) (by decide)) (by omega) (he 35 16 (by omega) (by omega)) (fun i a q1 q2 q3 q4 => q4.tr eT htg ⟨q1, by omega⟩ (hAA 28 (by decide) (by decide) (by decide)).r (hob 28 i a q3 (by omega) (by omega)) (Or.inl (funext fun j => he 41 j (by omega) (by omega))) (he 42 i (by omega) (by omega)))
  · exact h29.fr eT htg (hAA 29 (by decide) (by decide) (by decide)) (by omega) (he 35 33 (by omega) (by omega)) (fun i a q1 q2 q3 q4 => q4.tr eT htg ⟨q1, by omega⟩ (hAA 29 (by decide) (by decide) (by decide)).r (hob 29 i a q3 (by omega) (by omega)) (hPGE i q1 q2))
  · exact h30.fr eT htg (hAA 30 (by decide) (by decide) (by decide)) (by omega) (he 35 45 (by omega) (by omega)) (fun i a q1 q2 q3 q4 => q4.tr (hob 30 i a q3 (by omega) (by omega)) (fun k w1 w2 => he k i (by omega) (by omega)))
  · exact h31.fr eT htg (hAA 31 (by decide) (by decide) (by decide)) (by omega) (he 35 79 (by omega) (by omega)) (fun i a q1 q2 q3 q4 => q4.tr eT htg ⟨q1, by omega⟩ (hAA 31 (by decide) (by decide) (by decide)).r (hob 31 i a q3 (by omega) (by omega)) (he 88 i (by omega) (by omega)) (by have := hCP.2.2 i q1 (by omega); exact he 47 _ (by omega) (by omega)) (fun n w1 w2 => by have := hCP.2.2 i q1 (by omega); have := hPS.2.2 (M 88 i) (by omega) (by omega); exact he 89 _ (by omega) (by omega)))
  · exact h32.fr eT htg (hAA 32 (by decide) (by decide) (by decide)) (by omega) (he 35 84 (by omega) (by omega)) (fun i a q1 q2 q3 q4 => q4.tr eT htg ⟨q1, by omega⟩ (hAA 32 (by decide) (by decide) (by decide)).r (hob 32 i a q3 (by omega) (by omega)) (he 94 i (by omega) (by omega)) (fun n w1 w2 => ⟨he 95 _ (by omega) (by omega), he 96 _ (by omega) (by omega)⟩))
  · exact h33.fr eT htg (hAA 33 (by decide) (by decide) (by decide)) (by omega) (he 35 80 (by omega) (by omega)) (fun i a q1 q2 q3 q4 => q4.tr (hob 33 i a q3 (by omega) (by omega)) (fun k w1 w2 => he k i (by omega) (by omega)))
  · exact hL
end WRITES
section
variable {kd : Int → Nat} {ln : Int → Int} {mem : Int → Int → Int} {sz : Nat} {tg : Int → Int} {s j w t n x c e A k : Int}
/-- one cell of a list's own written -/
theorem AG.wr1 {L L' : Int} (hT : L * 10000 < tg A ∧ tg A < L * 10000 + 10000) (hA : 101 ≤ A) (hne : L' ≠ L) (hL : 3 ≤ L' ∧ L' ≤ 34) : AG sz tg mem (set2 mem A k x) L' :=
  ⟨funext fun j => s2_a (by omega), fun a u1 u2 u3 u4 => funext fun j => s2_a (fun q => by rw [q] at u3 u4; omega)⟩
theorem LSG.wr1 {L N N' A k x : Int} {cc : Nat} {O O' : Int → Int → Prop} (h : LSG kd ln mem sz tg L N cc O) (hL : 3 ≤ L ∧ L < sz ∧ L ≤ 34) (hT : L * 10000 < tg A) (hA : 101 ≤ A) (hN : N' = N) (hO : ∀ i : Int, 0 ≤ i → i < N → OWN sz tg (mem (mem L 1) i) (L * 10000 + 100 * (i + 1)) → O i (mem (mem L 1) i) → O' i (mem (mem L 1) i)) : LSG kd ln (set2 mem A k x) sz tg L N' cc O' := by
  refine h.fr2 EXT.rf (fun _ _ => rfl) (funext fun j => s2_a (by omega)) (funext fun j => s2_a (fun q => ?_)) ⟨hL.1, hL.2.1⟩ hN hO
  rcases h.2.1 with u | u
  · omega
  · have := u.2.2; rw [q] at this; omega
theorem GRP.lose (hI : INV kd ln mem sz tg) (h0 : 0 ≤ s ∧ s < mem 35 88) : GRP kd ln (set2 mem (mem (mem 34 1) s) 2 1) sz tg (set2 mem 98 s 1) := by
  have hv := hI.sht (s := s) h0.1 h0.2
  have hu := hI.1.2.2.2.2.1
  have hn := hI.shs.2.1
  have ho := hv.2.1
  have e := ho.2.2
  refine hI.2.2.own34 hI.2.1 hu (fun L' u1 u2 u3 => AG.wr1 (L := 34) (by omega) ho.1 u3 ⟨u1, u2⟩) (fun x j _ q => s2_a (by omega)) (hI.g34.wr1 (by omega) (by omega) ho.1 (s2_a (by decide)) (fun i u1 u2 u3 u4 => ?_))
  obtain ⟨a1, a2, a3, a4⟩ := u4
  obtain ⟨B, hB⟩ : ∃ y : Int, y = mem (mem 34 1) i := ⟨_, rfl⟩
  obtain ⟨A, hA⟩ : ∃ y : Int, y = mem (mem 34 1) s := ⟨_, rfl⟩
  rw [← hB] at a1 a2 a3 a4 u3 ⊢
  rw [← hA] at e ho ⊢
  have hr : mem B 1 ≠ A := fun q => by have := a2.2.2.2.2; rw [q] at this; omega
  have ek : ∀ j : Int, j ≠ 2 → set2 mem A 2 1 B j = mem B j := fun j q => if_neg (fun z => q z.2)
  refine ⟨by rw [ek 0 (by decide), s2_a (by decide)]; exact a1, by rw [ek 1 (by decide)]; exact a2, ?_, fun j q1 q2 => by rw [ek 1 (by decide), s2_a hr, s2_a (by decide)]; exact a4 j q1 q2⟩
  by_cases w : i = s
  · rw [w] at hB ⊢
    rw [hB, ← hA, s2_s, s2_s]
  · rw [s2_a (fun q => by have := u3.2.2; rw [q] at this; omega), s2_k w]
    exact a3
theorem GRP.put (hI : INV kd ln mem sz tg) (h0 : 0 ≤ s ∧ s < mem 35 88) (hj : 0 ≤ j ∧ j ≤ 39) : GRP kd ln (set2 mem (mem (mem (mem 34 1) s) 1) j x) sz tg (set2 mem 99 (40 * s + j) x) := by
  have hv := hI.sht (s := s) h0.1 h0.2
  have hu := hI.1.2.2.2.2.1
  have hn := hI.shs.2.1
  have ho := hv.2.2.1.2.1
  have e := ho.2.2.2.2
  refine hI.2.2.own34 hI.2.1 hu (fun L' u1 u2 u3 => AG.wr1 (L := 34) (by omega) ho.2.2.1 u3 ⟨u1, u2⟩) (fun x j _ q => s2_a (by omega)) (hI.g34.wr1 (by omega) (by omega) ho.2.2.1 (s2_a (by decide)) (fun i u1 u2 u3 u4 => ?_))
  obtain ⟨a1, a2, a3, a4⟩ := u4
  obtain ⟨B, hB⟩ : ∃ y : Int, y = mem (mem 34 1) i := ⟨_, rfl⟩
  obtain ⟨A, hA⟩ : ∃ y : Int, y = mem (mem (mem 34 1) s) 1 := ⟨_, rfl⟩
  rw [← hB] at a1 a2 a3 a4 u3 ⊢
  rw [← hA] at e ho ⊢
  have hBA : B ≠ A := fun q => by have := u3.2.2; rw [q] at this; omega
  refine ⟨by rw [s2_a hBA, s2_a (by decide)]; exact a1, by rw [s2_a hBA]; exact a2, by rw [s2_a hBA, s2_a (by decide)]; exact a3, fun y q1 q2 => ?_⟩
  rw [s2_a hBA]
  by_cases w : i = s
  · rw [w] at hB a4 ⊢
    have e1 : mem B 1 = A := by rw [hB, hA]
    rw [e1] at a4 ⊢
    by_cases z : y = j
    · rw [z, s2_s, s2_s]
    · rw [s2_k z, s2_k (by omega)]; exact a4 y q1 q2
  · rw [s2_a (fun q => by have := a2.2.2.2.2; rw [q] at this; omega), s2_k (by omega)]
    exact a4 y q1 q2
theorem GRP.mend (hI : INV kd ln mem sz tg) (h0 : 0 ≤ s ∧ s < mem 35 45) : GRP kd ln (set2 mem (mem (mem 30 1) s) 5 x) sz tg (set2 mem 68 s x) := by
  have hv := hI.slp (s := s) h0.1 h0.2
  have hu := hI.1.2.2.2.2.1
  have hn := hI.sls.2.1
  have ho := hv.1.2
  have e := ho.2.2
  refine hI.2.2.own30 hI.2.1 hu (fun L' u1 u2 u3 => AG.wr1 (L := 30) (by omega) ho.1 u3 ⟨u1, u2⟩) (fun x j _ q => s2_a (by omega)) (hI.g30.wr1 (by omega) (by omega) ho.1 (s2_a (by decide)) (fun i u1 u2 u3 u4 => ?_))
  obtain ⟨a1, a2, a3, a4, a5, a6⟩ := u4
  obtain ⟨B, hB⟩ : ∃ y : Int, y = mem (mem 30 1) i := ⟨_, rfl⟩
  obtain ⟨A, hA⟩ : ∃ y : Int, y = mem (mem 30 1) s := ⟨_, rfl⟩
  rw [← hB] at a1 a2 a3 a4 a5 a6 u3 ⊢
  rw [← hA] at e ho ⊢
  have ek : ∀ j : Int, j ≠ 5 → set2 mem A 5 x B j = mem B j := fun j q => if_neg (fun z => q z.2)
  refine ⟨by rw [ek 0 (by decide), s2_a (by decide)]; exact a1, by rw [ek 1 (by decide), s2_a (by decide)]; exact a2, by rw [ek 2 (by decide), s2_a (by decide)]; exact a3, by rw [ek 3 (by decide), s2_a (by decide)]; exact a4, by rw [ek 4 (by decide), s2_a (by decide)]; exact a5, ?_⟩
  by_cases w : i = s
  · rw [w] at hB ⊢
    rw [hB, ← hA, s2_s, s2_s]
  · rw [s2_a (fun q => by have := u3.2.2; rw [q] at this; omega), s2_k w]
    exact a6
theorem GRP.apply (hI : INV kd ln mem sz tg) (h0 : 0 ≤ c ∧ c < mem 35 79) (hn0 : 0 ≤ n ∧ n < 40) : GRP kd ln (set2 mem (mem (mem (mem 31 1) c) 1) n x) sz tg (set2 mem 89 (40 * c + n) x) := by
  have hu := hI.1.2.2.2.2.1
  have hcp := hI.cps
  have hv := hI.g31.2.2.2 c h0.1 h0.2
  have ho := hv.2.2.2.1
  have e := ho.2.2.2.2
  have hcl : mem 35 79 ≤ 8 := hcp.2.1
  refine hI.2.2.own31 hI.2.1 hu (fun L' u1 u2 u3 => AG.wr1 (L := 31) (by omega) ho.2.2.1 u3 ⟨u1, u2⟩) (fun x j _ q => s2_a (by omega)) (hI.g31.wr1 (by omega) (by omega) ho.2.2.1 (s2_a (by decide)) (fun i u1 u2 u3 u4 => ?_))
  obtain ⟨a1, a2, a3⟩ := u4
  have hpi := hcp.2.2 i u1 (by omega)
  have hpp := hI.pgs.2.2 (mem 88 i) (by omega) (by omega)
  obtain ⟨B, hB⟩ : ∃ y : Int, y = mem (mem 31 1) i := ⟨_, rfl⟩
  obtain ⟨A, hA⟩ : ∃ y : Int, y = mem (mem (mem 31 1) c) 1 := ⟨_, rfl⟩
  rw [← hB] at a1 a2 a3 u3 ⊢
  rw [← hA] at e ho ⊢
  have hBA : B ≠ A := fun q => by have := u3.2.2; rw [q] at this; omega
  refine ⟨by rw [s2_a hBA, s2_a (by decide)]; exact a1, by rw [s2_a hBA]; exact a2, fun y q1 q2 => ?_⟩
  rw [s2_a (by decide : (88 : Int) ≠ 89), s2_a (by decide : (47 : Int) ≠ 89)] at q2
  rw [s2_a hBA]
  by_cases w : i = c
  · rw [w] at hB a3 q2 hpp ⊢
    have e1 : mem B 1 = A := by rw [hB, hA]
    rw [e1] at a3 ⊢
    by_cases z : y = n
    · rw [z, s2_s, s2_s]
    · rw [s2_k z, s2_k (by omega)]; exact a3 y q1 q2
  · rw [s2_a (fun q => by have := a2.2.2.2.2; rw [q] at this; omega), s2_k (by omega)]
    exact a3 y q1 q2
theorem GRP.tell (hI : INV kd ln mem sz tg) (h0 : 0 ≤ t ∧ t < mem 35 84) (hn0 : 0 ≤ n ∧ n < 40) : GRP kd ln (set2 mem (mem (mem (mem 32 1) t) 1) n x) sz tg (tellM mem t n x) := by
  have hu := hI.1.2.2.2.2.1
  have hv := hI.g32.2.2.2 t h0.1 h0.2
  have ho := hv.2.2.2.1
  have e := ho.2.2.2.2
  have hcl : mem 35 84 ≤ 8 := hI.ots.2.1
  have hm : ∀ a j : Int, a ≠ 95 → a ≠ 96 → tellM mem t n x a j = mem a j := fun a j q1 q2 => by unfold tellM; rw [s2_a q2, s2_a q1]
  refine hI.2.2.own32 hI.2.1 hu (fun L' u1 u2 u3 => AG.wr1 (L := 32) (by omega) ho.2.2.1 u3 ⟨u1, u2⟩) (fun x j _ q => hm x j (by omega) (by omega)) (hI.g32.wr1 (by omega) (by omega) ho.2.2.1 (hm _ _ (by decide) (by decide)) (fun i u1 u2 u3 u4 => ?_))
  obtain ⟨a1, a2, a3⟩ := u4
  obtain ⟨B, hB⟩ : ∃ y : Int, y = mem (mem 32 1) i := ⟨_, rfl⟩
  obtain ⟨A, hA⟩ : ∃ y : Int, y = mem (mem (mem 32 1) t) 1 := ⟨_, rfl⟩
  rw [← hB] at a1 a2 a3 u3 ⊢
  rw [← hA] at e ho ⊢
  have hBA : B ≠ A := fun q => by have := u3.2.2; rw [q] at this; omega
  refine ⟨by rw [s2_a hBA, hm _ _ (by decide) (by decide)]; exact a1, by rw [s2_a hBA]; exact a2, fun y q1 q2 => ?_⟩
  rw [s2_a hBA]
  have h3 := a3 y q1 q2
  have e96 : tellM mem t n x 96 (40 * i + y) = if 40 * i + y = 40 * t + n then (if wL x = wL (-1) then 0 else 1) else mem 96 (40 * i + y) := by
    unfold tellM
    by_cases z : 40 * i + y = 40 * t + n
    · rw [if_pos z, z, s2_s]
    · rw [if_neg z, s2_k z, s2_a (by decide)]
  have e95 : tellM mem t n x 95 (40 * i + y) = if 40 * i + y = 40 * t + n then x else mem 95 (40 * i + y) := by
    unfold tellM
    rw [s2_a (by decide)]
    by_cases z : 40 * i + y = 40 * t + n
    · rw [if_pos z, z, s2_s]
    · rw [if_neg z, s2_k z]
  rw [e96, e95]
  by_cases w : i = t
  · rw [w] at hB h3 ⊢
    have e1 : mem B 1 = A := by rw [hB, hA]
    rw [e1] at h3 ⊢
    by_cases z : y = n
    · rw [z, s2_s, if_pos rfl, if_pos rfl]
      by_cases v : wL x = wL (-1)
      · rw [if_pos v]; exact ⟨⟨fun _ => v, fun _ => rfl⟩, fun q => absurd rfl q⟩
      · rw [if_neg v]; exact ⟨⟨fun q => absurd q (by decide), fun q => absurd q v⟩, fun _ => rfl⟩
    · rw [s2_k z, if_neg (by omega), if_neg (by omega)]; exact h3
  · rw [s2_a (fun q => by have := a2.2.2.2.2; rw [q] at this; omega), if_neg (by omega), if_neg (by omega)]
    exact h3
end

end
