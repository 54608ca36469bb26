section ADDS
set_option maxHeartbeats 4000000 in
theorem GRP.add27 {kd kd1 kd2 : Int → Nat} {ln ln1 ln2 : Int → Int} {mem mem1 mem2 M M' : Int → Int → Int} {sz sz1 sz2 : Nat} {tg tg2 : Int → Int} {e : Int} (h : GRP kd ln mem sz tg M) (hMI : MI M) (hs : 101 ≤ sz) (hN : M 35 6 ≤ 61) (hE1 : EXT kd ln sz kd1 ln1 sz1) (hf1 : ∀ b j : Int, b < sz → mem1 b j = mem b j) (hA : ADDP ln1 mem1 sz1 27 e kd2 ln2 mem2) (hz2 : mem2 27 1 < sz2) (hE2 : EXT kd1 ln1 sz1 kd2 ln2 sz2) (he0 : sz ≤ e ∧ e < sz1) (hke : kd1 e = 2) (htg : TGX sz tg tg2) (ht1 : tg2 sz1 = 27 * 10000) (hte : tg2 e = 27 * 10000 + 100 * (M 35 6 + 1)) (hcnt : M' 35 6 = M 35 6 + 1) (he : ∀ x j : Int, SC x j → ¬ ((36 ≤ x ∧ x ≤ 38 ∧ j = M 35 6) ∨ (x = 35 ∧ j = 6)) → M' x j = M x j) (hOe : O27 mem2 M' (M 35 6) e) : GRP kd2 ln2 mem2 sz2 tg2 M' := by
  obtain ⟨h0, h27, h28, h29, h30, h31, h32, h33, h34⟩ := h
  obtain ⟨-, -, -, -, -, hPS, hPF, hSL, -, -, -, -, -, -, -, -, -, -, hCP, -⟩ := id hMI
  have z1 := hE1.1
  have eT := hE1.tr hE2
  have hAA : ∀ L' : Int, 3 ≤ L' → L' ≤ 34 → L' ≠ 27 → AG sz tg mem mem2 L' := fun L' q1 q2 q3 => hA.ag h27.2.1 hf1 (by omega) hs ⟨by decide, by decide, q1, q2, q3⟩
  have hAO : AGR sz tg mem mem2 27 := fun a w1 w2 w3 _ => funext fun j => by
    obtain ⟨-, -, -, a4, -, -, -, -, a9⟩ := hA
    have e1 : mem1 27 1 = mem 27 1 := hf1 27 1 (by omega)
    rw [a9 a j (by omega) (fun w => by rcases a4 with v | v <;> rcases h27.2.1 with u | u <;> first | omega | (have := u.2.2; rw [← e1, ← v, ← w] at this; omega))]
    exact hf1 a j w2
  have hl27 := h27.len
  have hl28 := h28.len
  have hl29 := h29.len
  have hl30 := h30.len
  have hl31 := h31.len
  have hl32 := h32.len
  have hl33 := h33.len
  have hl34 := h34.len
  have f3 : mem2 3 = mem 3 := (hAA 3 (by decide) (by decide) (by decide)).1
  have f4 : mem2 4 = mem 4 := (hAA 4 (by decide) (by decide) (by decide)).1
  have f5 : mem2 5 = mem 5 := (hAA 5 (by decide) (by decide) (by decide)).1
  have f6 : mem2 6 = mem 6 := (hAA 6 (by decide) (by decide) (by decide)).1
  have hob : ∀ (L' i a : Int), OWN sz tg a (L' * 10000 + 100 * (i + 1)) → 27 ≤ L' ∧ L' ≤ 34 → 0 ≤ i ∧ i ≤ 63 → mem2 a = mem a := fun L' i a q1 q2 q3 => by
    by_cases w : L' = 27
    · exact hAO a q1.1 q1.2.1 (by have := q1.2.2; omega) (by have := q1.2.2; omega)
    · exact (hAA L' (by omega) (by omega) w).own q1 (by omega)
  have hPGE : ∀ P : Int, 0 ≤ P → P < M 35 33 → PGE M M' P := fun P q1 q2 => by
    have w1 := hPF P q1 q2
    have w2 := hPS.2.2 P q1 (by omega)
    refine ⟨fun k u1 u2 => he k P (by omega) (by omega), fun k u1 u2 => he k _ (by omega) (by omega), fun k n u1 u2 u3 u4 => he k _ (by omega) (by omega), fun n u1 u2 => ?_, he 82 P (by omega) (by omega), fun n u1 u2 => he 83 _ (by omega) (by omega), fun n j u1 u2 u3 u4 => ?_⟩
    · rw [he 35 45 (by omega) (by omega)]
      exact slB_cg _ (fun s _ _ => ⟨he 63 s (by omega) (by omega), he 64 s (by omega) (by omega)⟩)
    · rw [he 35 72 (by omega) (by omega)]
      exact pvN_cg _ (fun s _ _ => ⟨he 84 s (by omega) (by omega), he 85 s (by omega) (by omega), he 86 s (by omega) (by omega), he 87 s (by omega) (by omega)⟩)
  refine ⟨?_, ?_, ?_, ?_, ?_, ?_, ?_, ?_, ?_⟩
  · obtain ⟨⟨g1, g2, g3, g4, g5, g6⟩, g7, g8, g9, g10⟩ := h0
    unfold RN
    rw [f3, f4, f5, f6]
    refine ⟨⟨?_, ?_, ?_, ?_, ?_, ?_⟩, fun x y q1 q2 q3 q4 => ?_, ?_, ?_, g10⟩
    · rw [he 35 0 (by omega) (by omega)]; exact g1
    · rw [he 35 2 (by omega) (by omega)]; exact g2
    · rw [he 35 46 (by omega) (by omega)]; exact g3
    · rw [he 35 89 (by omega) (by omega)]; exact g4
    · rw [he 35 72 (by omega) (by omega)]; exact g5
    · rw [he 35 65 (by omega) (by omega)]; exact g6
    · rw [g7 x y q1 q2 q3 q4]
      unfold leftV leftW
      rw [he 35 65 (by omega) (by omega), lsN_cg _ (fun s _ _ => ⟨he 77 s (by omega) (by omega), he 78 s (by omega) (by omega)⟩), he 79 _ (by omega) (by omega), he 80 _ (by omega) (by omega), he 81 _ (by omega) (by omega)]
    · rw [he 35 11 (by omega) (by omega)]; exact g8
    · rw [g9]; exact (funext fun j => he 39 j (by omega) (by omega)).symm
  · exact h27.add hN hcnt hE1 hf1 hA hz2 hE2 he0 hke hs htg ht1 hte (by decide) (fun i a q1 q2 q3 q4 => q4.tr (hob 27 i a q3 (by omega) (by omega)) (he 36 i (by omega) (by omega)) (he 37 i (by omega) (by omega)) (he 38 i (by omega) (by omega))) hOe
  · exact h28.fr eT htg (hAA 28 (by decide) (by decide) (by decide)) (by omega) (he 35 16 (by omega) (by omega)) (fun i a q1 q2 q3 q4 => q4.tr eT htg ⟨q1, by omega⟩ (hAA 28 (by decide) (by decide) (by decide)).r (hob 28 i a q3 (by omega) (by omega)) (Or.inl (funext fun j => he 41 j (by omega) (by omega))) (he 42 i (by omega) (by omega)))
  · exact h29.fr eT htg (hAA 29 (by decide) (by decide) (by decide)) (by omega) (he 35 33 (by omega) (by omega)) (fun i a q1 q2 q3 q4 => q4.tr eT htg ⟨q1, by omega⟩ (hAA 29 (by decide) (by decide) (by decide)).r (hob 29 i a q3 (by omega) (by omega)) (hPGE i q1 q2))
  · exact h30.fr eT htg (hAA 30 (by decide) (by decide) (by decide)) (by omega) (he 35 45 (by omega) (by omega)) (fun i a q1 q2 q3 q4 => q4.tr (hob 30 i a q3 (by omega) (by omega)) (fun k w1 w2 => he k i (by omega) (by omega)))
  · exact h31.fr eT htg (hAA 31 (by decide) (by decide) (by decide)) (by omega) (he 35 79 (by omega) (by omega)) (fun i a q1 q2 q3 q4 => q4.tr eT htg ⟨q1, by omega⟩ (hAA 31 (by decide) (by decide) (by decide)).r (hob 31 i a q3 (by omega) (by omega)) (he 88 i (by omega) (by omega)) (by have := hCP.2.2 i q1 (by omega); exact he 47 _ (by omega) (by omega)) (fun n w1 w2 => by have := hCP.2.2 i q1 (by omega); have := hPS.2.2 (M 88 i) (by omega) (by omega); exact he 89 _ (by omega) (by omega)))
  · exact h32.fr eT htg (hAA 32 (by decide) (by decide) (by decide)) (by omega) (he 35 84 (by omega) (by omega)) (fun i a q1 q2 q3 q4 => q4.tr eT htg ⟨q1, by omega⟩ (hAA 32 (by decide) (by decide) (by decide)).r (hob 32 i a q3 (by omega) (by omega)) (he 94 i (by omega) (by omega)) (fun n w1 w2 => ⟨he 95 _ (by omega) (by omega), he 96 _ (by omega) (by omega)⟩))
  · exact h33.fr eT htg (hAA 33 (by decide) (by decide) (by decide)) (by omega) (he 35 80 (by omega) (by omega)) (fun i a q1 q2 q3 q4 => q4.tr (hob 33 i a q3 (by omega) (by omega)) (fun k w1 w2 => he k i (by omega) (by omega)))
  · exact h34.fr eT htg (hAA 34 (by decide) (by decide) (by decide)) (by omega) (he 35 88 (by omega) (by omega)) (fun i a q1 q2 q3 q4 => q4.tr eT htg ⟨q1, by omega⟩ (hAA 34 (by decide) (by decide) (by decide)).r (hob 34 i a q3 (by omega) (by omega)) (he 97 i (by omega) (by omega)) (he 98 i (by omega) (by omega)) (fun n w1 w2 => he 99 _ (by omega) (by omega)))
set_option maxHeartbeats 4000000 in
theorem GRP.add28 {kd kd1 kd2 : Int → Nat} {ln ln1 ln2 : Int → Int} {mem mem1 mem2 M M' : Int → Int → Int} {sz sz1 sz2 : Nat} {tg tg2 : Int → Int} {e : Int} (h : GRP kd ln mem sz tg M) (hMI : MI M) (hs : 101 ≤ sz) (hN : M 35 16 ≤ 61) (hE1 : EXT kd ln sz kd1 ln1 sz1) (hf1 : ∀ b j : Int, b < sz → mem1 b j = mem b j) (hA : ADDP ln1 mem1 sz1 28 e kd2 ln2 mem2) (hz2 : mem2 28 1 < sz2) (hE2 : EXT kd1 ln1 sz1 kd2 ln2 sz2) (he0 : sz ≤ e ∧ e < sz1) (hke : kd1 e = 12) (htg : TGX sz tg tg2) (ht1 : tg2 sz1 = 28 * 10000) (hte : tg2 e = 28 * 10000 + 100 * (M 35 16 + 1)) (hcnt : M' 35 16 = M 35 16 + 1) (he : ∀ x j : Int, SC x j → ¬ ((x = 41 ∧ 620 * M 35 16 ≤ j) ∨ (x = 42 ∧ j = M 35 16) ∨ (x = 35 ∧ j = 16)) → M' x j = M x j) (hOe : O28 kd2 ln2 mem2 sz2 tg2 M' (M 35 16) e) : GRP kd2 ln2 mem2 sz2 tg2 M' := by
  obtain ⟨h0, h27, h28, h29, h30, h31, h32, h33, h34⟩ := h
  obtain ⟨-, -, -, -, -, hPS, hPF, hSL, -, -, -, -, -, -, -, -, -, -, hCP, -⟩ := id hMI
  have z1 := hE1.1
  have eT := hE1.tr hE2
  have hAA : ∀ L' : Int, 3 ≤ L' → L' ≤ 34 → L' ≠ 28 → AG sz tg mem mem2 L' := fun L' q1 q2 q3 => hA.ag h28.2.1 hf1 (by omega) hs ⟨by decide, by decide, q1, q2, q3⟩
  have hAO : AGR sz tg mem mem2 28 := fun a w1 w2 w3 _ => funext fun j => by
    obtain ⟨-, -, -, a4, -, -, -, -, a9⟩ := hA
    have e1 : mem1 28 1 = mem 28 1 := hf1 28 1 (by omega)
    rw [a9 a j (by omega) (fun w => by rcases a4 with v | v <;> rcases h28.2.1 with u | u <;> first | omega | (have := u.2.2; rw [← e1, ← v, ← w] at this; omega))]
    exact hf1 a j w2
  have hl27 := h27.len
  have hl28 := h28.len
  have hl29 := h29.len
  have hl30 := h30.len
  have hl31 := h31.len
  have hl32 := h32.len
  have hl33 := h33.len
  have hl34 := h34.len
  have f3 : mem2 3 = mem 3 := (hAA 3 (by decide) (by decide) (by decide)).1
  have f4 : mem2 4 = mem 4 := (hAA 4 (by decide) (by decide) (by decide)).1
  have f5 : mem2 5 = mem 5 := (hAA 5 (by decide) (by decide) (by decide)).1
  have f6 : mem2 6 = mem 6 := (hAA 6 (by decide) (by decide) (by decide)).1
  have hob : ∀ (L' i a : Int), OWN sz tg a (L' * 10000 + 100 * (i + 1)) → 27 ≤ L' ∧ L' ≤ 34 → 0 ≤ i ∧ i ≤ 63 → mem2 a = mem a := fun L' i a q1 q2 q3 => by
    by_cases w : L' = 28
    · exact hAO a q1.1 q1.2.1 (by have := q1.2.2; omega) (by have := q1.2.2; omega)
    · exact (hAA L' (by omega) (by omega) w).own q1 (by omega)
  have hPGE : ∀ P : Int, 0 ≤ P → P < M 35 33 → PGE M M' P := fun P q1 q2 => by
    have w1 := hPF P q1 q2
    have w2 := hPS.2.2 P q1 (by omega)
    refine ⟨fun k u1 u2 => he k P (by omega) (by omega), fun k u1 u2 => he k _ (by omega) (by omega), fun k n u1 u2 u3 u4 => he k _ (by omega) (by omega), fun n u1 u2 => ?_, he 82 P (by omega) (by omega), fun n u1 u2 => he 83 _ (by omega) (by omega), fun n j u1 u2 u3 u4 => ?_⟩
    · rw [he 35 45 (by omega) (by omega)]
      exact slB_cg _ (fun s _ _ => ⟨he 63 s (by omega) (by omega), he 64 s (by omega) (by omega)⟩)
    · rw [he 35 72 (by omega) (by omega)]
      exact pvN_cg _ (fun s _ _ => ⟨he 84 s (by omega) (by omega), he 85 s (by omega) (by omega), he 86 s (by omega) (by omega), he 87 s (by omega) (by omega)⟩)
  refine ⟨?_, ?_, ?_, ?_, ?_, ?_, ?_, ?_, ?_⟩
  · obtain ⟨⟨g1, g2, g3, g4, g5, g6⟩, g7, g8, g9, g10⟩ := h0
    unfold RN
    rw [f3, f4, f5, f6]
    refine ⟨⟨?_, ?_, ?_, ?_, ?_, ?_⟩, fun x y q1 q2 q3 q4 => ?_, ?_, ?_, g10⟩
    · rw [he 35 0 (by omega) (by omega)]; exact g1
    · rw [he 35 2 (by omega) (by omega)]; exact g2
    · rw [he 35 46 (by omega) (by omega)]; exact g3
    · rw [he 35 89 (by omega) (by omega)]; exact g4
    · rw [he 35 72 (by omega) (by omega)]; exact g5
    · rw [he 35 65 (by omega) (by omega)]; exact g6
    · rw [g7 x y q1 q2 q3 q4]
      unfold leftV leftW
      rw [he 35 65 (by omega) (by omega), lsN_cg _ (fun s _ _ => ⟨he 77 s (by omega) (by omega), he 78 s (by omega) (by omega)⟩), he 79 _ (by omega) (by omega), he 80 _ (by omega) (by omega), he 81 _ (by omega) (by omega)]
    · rw [he 35 11 (by omega) (by omega)]; exact g8
    · rw [g9]; exact (funext fun j => he 39 j (by omega) (by omega)).symm
  · exact h27.fr eT htg (hAA 27 (by decide) (by decide) (by decide)) (by omega) (he 35 6 (by omega) (by omega)) (fun i a q1 q2 q3 q4 => q4.tr (hob 27 i a q3 (by omega) (by omega)) (he 36 i (by omega) (by omega)) (he 37 i (by omega) (by omega)) (he 38 i (by omega) (by omega)))
  · exact h28.add hN hcnt hE1 hf1 hA hz2 hE2 he0 hke hs htg ht1 hte (by decide) (fun i a q1 q2 q3 q4 => q4.tr eT htg ⟨q1, by omega⟩ hAO (hob 28 i a q3 (by omega) (by omega)) (Or.inr fun c c1 c2 => SG.congr c2 (fun j w1 w2 => he 41 j (by omega) (by omega))) (he 42 i (by omega) (by omega))) hOe
  · exact h29.fr eT htg (hAA 29 (by decide) (by decide) (by decide)) (by omega) (he 35 33 (by omega) (by omega)) (fun i a q1 q2 q3 q4 => q4.tr eT htg ⟨q1, by omega⟩ (hAA 29 (by decide) (by decide) (by decide)).r (hob 29 i a q3 (by omega) (by omega)) (hPGE i q1 q2))
  · exact h30.fr eT htg (hAA 30 (by decide) (by decide) (by decide)) (by omega) (he 35 45 (by omega) (by omega)) (fun i a q1 q2 q3 q4 => q4.tr (hob 30 i a q3 (by omega) (by omega)) (fun k w1 w2 => he k i (by omega) (by omega)))
  · exact h31.fr eT htg (hAA 31 (by decide) (by decide) (by decide)) (by omega) (he 35 79 (by omega) (by omega)) (fun i a q1 q2 q3 q4 => q4.tr eT htg ⟨q1, by omega⟩ (hAA 31 (by decide) (by decide) (by decide)).r (hob 31 i a q3 (by omega) (by omega)) (he 88 i (by omega) (by omega)) (by have := hCP.2.2 i q1 (by omega); exact he 47 _ (by omega) (by omega)) (fun n w1 w2 => by have := hCP.2.2 i q1 (by omega); have := hPS.2.2 (M 88 i) (by omega) (by omega); exact he 89 _ (by omega) (by omega)))
  · exact h32.fr eT htg (hAA 32 (by decide) (by decide) (by decide)) (by omega) (he 35 84 (by omega) (by omega)) (fun i a q1 q2 q3 q4 => q4.tr eT htg ⟨q1, by omega⟩ (hAA 32 (by decide) (by decide) (by decide)).r (hob 32 i a q3 (by omega) (by omega)) (he 94 i (by omega) (by omega)) (fun n w1 w2 => ⟨he 95 _ (by omega) (by omega), he 96 _ (by omega) (by omega)⟩))
  · exact h33.fr eT htg (hAA 33 (by decide) (by decide) (by decide)) (by omega) (he 35 80 (by omega) (by omega)) (fun i a q1 q2 q3 q4 => q4.tr (hob 33 i a q3 (by omega) (by omega)) (fun k w1 w2 => he k i (by omega) (by omega)))
  · exact h34.fr eT htg (hAA 34 (by decide) (by decide) (by decide)) (by omega) (he 35 88 (by omega) (by omega)) (fun i a q1 q2 q3 q4 => q4.tr eT htg ⟨q1, by omega⟩ (hAA 34 (by decide) (by decide) (by decide)).r (hob 34 i a q3 (by omega) (by omega)) (he 97 i (by omega) (by omega)) (he 98 i (by omega) (by omega)) (fun n w1 w2 => he 99 _ (by omega) (by omega)))
set_option maxHeartbeats 4000000 in
theorem GRP.add29 {kd kd1 kd2 : Int → Nat} {ln ln1 ln2 : Int → Int} {mem mem1 mem2 M M' : Int → Int → Int} {sz sz1 sz2 : Nat} {tg tg2 : Int → Int} {e : Int} (h : GRP kd ln mem sz tg M) (hMI : MI M) (hs : 101 ≤ sz) (hN : M 35 33 ≤ 61) (hE1 : EXT kd ln sz kd1 ln1 sz1) (hf1 : ∀ b j : Int, b < sz → mem1 b j = mem b j) (hA : ADDP ln1 mem1 sz1 29 e kd2 ln2 mem2) (hz2 : mem2 29 1 < sz2) (hE2 : EXT kd1 ln1 sz1 kd2 ln2 sz2) (he0 : sz ≤ e ∧ e < sz1) (hke : kd1 e = 5) (htg : TGX sz tg tg2) (ht1 : tg2 sz1 = 29 * 10000) (hte : tg2 e = 29 * 10000 + 100 * (M 35 33 + 1)) (hcnt : M' 35 33 = M 35 33 + 1) (he : ∀ x j : Int, SC x j → ¬ ((45 ≤ x ∧ x ≤ 53 ∧ j = M 35 33) ∨ (54 ≤ x ∧ x ≤ 58 ∧ 40 * M 35 33 ≤ j) ∨ (x = 35 ∧ j = 33)) → M' x j = M x j) (hOe : O29 kd2 ln2 mem2 sz2 tg2 M' (M 35 33) e) : GRP kd2 ln2 mem2 sz2 tg2 M' := by
  obtain ⟨h0, h27, h28, h29, h30, h31, h32, h33, h34⟩ := h
  obtain ⟨-, -, -, -, -, hPS, hPF, hSL, -, -, -, -, -, -, -, -, -, -, hCP, -⟩ := id hMI
  have z1 := hE1.1
  have eT := hE1.tr hE2
  have hAA : ∀ L' : Int, 3 ≤ L' → L' ≤ 34 → L' ≠ 29 → AG sz tg mem mem2 L' := fun L' q1 q2 q3 => hA.ag h29.2.1 hf1 (by omega) hs ⟨by decide, by decide, q1, q2, q3⟩
  have hAO : AGR sz tg mem mem2 29 := fun a w1 w2 w3 _ => funext fun j => by
    obtain ⟨-, -, -, a4, -, -, -, -, a9⟩ := hA
    have e1 : mem1 29 1 = mem 29 1 := hf1 29 1 (by omega)
    rw [a9 a j (by omega) (fun w => by rcases a4 with v | v <;> rcases h29.2.1 with u | u <;> first | omega | (have := u.2.2; rw [← e1, ← v, ← w] at this; omega))]
    exact hf1 a j w2
  have hl27 := h27.len
  have hl28 := h28.len
  have hl29 := h29.len
  have hl30 := h30.len
  have hl31 := h31.len
  have hl32 := h32.len
  have hl33 := h33.len
  have hl34 := h34.len
  have f3 : mem2 3 = mem 3 := (hAA 3 (by decide) (by decide) (by decide)).1
  have f4 : mem2 4 = mem 4 := (hAA 4 (by decide) (by decide) (by decide)).1
  have f5 : mem2 5 = mem 5 := (hAA 5 (by decide) (by decide) (by decide)).1
  have f6 : mem2 6 = mem 6 := (hAA 6 (by decide) (by decide) (by decide)).1
  have hob : ∀ (L' i a : Int), OWN sz tg a (L' * 10000 + 100 * (i + 1)) → 27 ≤ L' ∧ L' ≤ 34 → 0 ≤ i ∧ i ≤ 63 → mem2 a = mem a := fun L' i a q1 q2 q3 => by
    by_cases w : L' = 29
    · exact hAO a q1.1 q1.2.1 (by have := q1.2.2; omega) (by have := q1.2.2; omega)
    · exact (hAA L' (by omega) (by omega) w).own q1 (by omega)
  have hPGE : ∀ P : Int, 0 ≤ P → P < M 35 33 → PGE M M' P := fun P q1 q2 => by
    have w1 := hPF P q1 q2
    have w2 := hPS.2.2 P q1 (by omega)
    refine ⟨fun k u1 u2 => he k P (by omega) (by omega), fun k u1 u2 => he k _ (by omega) (by omega), fun k n u1 u2 u3 u4 => he k _ (by omega) (by omega), fun n u1 u2 => ?_, he 82 P (by omega) (by omega), fun n u1 u2 => he 83 _ (by omega) (by omega), fun n j u1 u2 u3 u4 => ?_⟩
    · rw [he 35 45 (by omega) (by omega)]
      exact slB_cg _ (fun s _ _ => ⟨he 63 s (by omega) (by omega), he 64 s (by omega) (by omega)⟩)
    · rw [he 35 72 (by omega) (by omega)]
      exact pvN_cg _ (fun s _ _ => ⟨he 84 s (by omega) (by omega), he 85 s (by omega) (by omega), he 86 s (by omega) (by omega), he 87 s (by omega) (by omega)⟩)
  refine ⟨?_, ?_, ?_, ?_, ?_, ?_, ?_, ?_, ?_⟩
  · obtain ⟨⟨g1, g2, g3, g4, g5, g6⟩, g7, g8, g9, g10⟩ := h0
    unfold RN
    rw [f3, f4, f5, f6]
    refine ⟨⟨?_, ?_, ?_, ?_, ?_, ?_⟩, fun x y q1 q2 q3 q4 => ?_, ?_, ?_, g10⟩
    · rw [he 35 0 (by omega) (by omega)]; exact g1
    · rw [he 35 2 (by omega) (by omega)]; exact g2
    · rw [he 35 46 (by omega) (by omega)]; exact g3
    · rw [he 35 89 (by omega) (by omega)]; exact g4
    · rw [he 35 72 (by omega) (by omega)]; exact g5
    · rw [he 35 65 (by omega) (by omega)]; exact g6
    · rw [g7 x y q1 q2 q3 q4]
      unfold leftV leftW
      rw [he 35 65 (by omega) (by omega), lsN_cg _ (fun s _ _ => ⟨he 77 s (by omega) (by omega), he 78 s (by omega) (by omega)⟩), he 79 _ (by omega) (by omega), he 80 _ (by omega) (by omega), he 81 _ (by omega) (by omega)]
    · rw [he 35 11 (by omega) (by omega)]; exact g8
    · rw [g9]; exact (funext fun j => he 39 j (by omega) (by omega)).symm
  · exact h27.fr eT htg (hAA 27 (by decide) (by decide) (by decide)) (by omega) (he 35 6 (by omega) (by omega)) (fun i a q1 q2 q3 q4 => q4.tr (hob 27 i a q3 (by omega) (by omega)) (he 36 i (by omega) (by omega)) (he 37 i (by omega) (by omega)) (he 38 i (by omega) (by omega)))
  · exact h28.fr eT htg (hAA 28 (by decide) (by decide) (by decide)) (by omega) (he 35 16 (by omega) (by omega)) (fun i a q1 q2 q3 q4 => q4.tr eT htg ⟨q1, by omega⟩ (hAA 28 (by decide) (by decide) (by decide)).r (hob 28 i a q3 (by omega) (by omega)) (Or.inl (funext fun j => he 41 j (by omega) (by omega))) (he 42 i (by omega) (by omega)))
  · exact h29.add hN hcnt hE1 hf1 hA hz2 hE2 he0 hke hs htg ht1 hte (by decide) (fun i a q1 q2 q3 q4 => q4.tr eT htg ⟨q1, by omega⟩ hAO (hob 29 i a q3 (by omega) (by omega)) (hPGE i q1 q2)) hOe
  · exact h30.fr eT htg (hAA 30 (by decide) (by decide) (by decide)) (by omega) (he 35 45 (by omega) (by omega)) (fun i a q1 q2 q3 q4 => q4.tr (hob 30 i a q3 (by omega) (by omega)) (fun k w1 w2 => he k i (by omega) (by omega)))
  · exact h31.fr eT htg (hAA 31 (by decide) (by decide) (by decide)) (by omega) (he 35 79 (by omega) (by omega)) (fun i a q1 q2 q3 q4 => q4.tr eT htg ⟨q1, by omega⟩ (hAA 31 (by decide) (by decide) (by decide)).r (hob 31 i a q3 (by omega) (by omega)) (he 88 i (by omega) (by omega)) (by have := hCP.2.2 i q1 (by omega); exact he 47 _ (by omega) (by omega)) (fun n w1 w2 => by have := hCP.2.2 i q1 (by omega); have := hPS.2.2 (M 88 i) (by omega) (by omega); exact he 89 _ (by omega) (by omega)))
  · exact h32.fr eT htg (hAA 32 (by decide) (by decide) (by decide)) (by omega) (he 35 84 (by omega) (by omega)) (fun i a q1 q2 q3 q4 => q4.tr eT htg ⟨q1, by omega⟩ (hAA 32 (by decide) (by decide) (by decide)).r (hob 32 i a q3 (by omega) (by omega)) (he 94 i (by omega) (by omega)) (fun n w1 w2 => ⟨he 95 _ (by omega) (by omega), he 96 _ (by omega) (by omega)⟩))
  · exact h33.fr eT htg (hAA 33 (by decide) (by decide) (by decide)) (by omega) (he 35 80 (by omega) (by omega)) (fun i a q1 q2 q3 q4 => q4.tr (hob 33 i a q3 (by omega) (by omega)) (fun k w1 w2 => he k i (by omega) (by omega)))
  · exact h34.fr eT htg (hAA 34 (by decide) (by decide) (by decide)) (by omega) (he 35 88 (by omega) (by omega)) (fun i a q1 q2 q3 q4 => q4.tr eT htg ⟨q1, by omega⟩ (hAA 34 (by decide) (by decide) (by decide)).r (hob 34 i a q3 (by omega) (by omega)) (he 97 i (by omega) (by omega)) (he 98 i (by omega) (by omega)) (fun n w1 w2 => he 99 _ (by omega) (by omega)))
set_option maxHeartbeats 4000000 in
theorem GRP.add31 {kd kd1 kd2 : Int → Nat} {ln ln1 ln2 : Int → Int} {mem mem1 mem2 M M' : Int → Int → Int} {sz sz1 sz2 : Nat} {tg tg2 : Int → Int} {e : Int} (h : GRP kd ln mem sz tg M) (hMI : MI M) (hs : 101 ≤ sz) (hN : M 35 79 ≤ 61) (hE1 : EXT kd ln sz kd1 ln1 sz1) (hf1 : ∀ b j : Int, b < sz → mem1 b j = mem b j) (hA : ADDP ln1 mem1 sz1 31 e kd2 ln2 mem2) (hz2 : mem2 31 1 < sz2) (hE2 : EXT kd1 ln1 sz1 kd2 ln2 sz2) (he0 : sz ≤ e ∧ e < sz1) (hke : kd1 e = 11) (htg : TGX sz tg tg2) (ht1 : tg2 sz1 = 31 * 10000) (hte : tg2 e = 31 * 10000 + 100 * (M 35 79 + 1)) (hcnt : M' 35 79 = M 35 79 + 1) (he : ∀ x j : Int, SC x j → ¬ ((x = 88 ∧ j = M 35 79) ∨ (x = 89 ∧ 40 * M 35 79 ≤ j) ∨ (x = 35 ∧ j = 79)) → M' x j = M x j) (hOe : O31 kd2 ln2 mem2 sz2 tg2 M' (M 35 79) e) : GRP kd2 ln2 mem2 sz2 tg2 M' := by
  obtain ⟨h0, h27, h28, h29, h30, h31, h32, h33, h34⟩ := h
  obtain ⟨-, -, -, -, -, hPS, hPF, hSL, -, -, -, -, -, -, -, -, -, -, hCP, -⟩ := id hMI
  have z1 := hE1.1
  have eT := hE1.tr hE2
  have hAA : ∀ L' : Int, 3 ≤ L' → L' ≤ 34 → L' ≠ 31 → AG sz tg mem mem2 L' := fun L' q1 q2 q3 => hA.ag h31.2.1 hf1 (by omega) hs ⟨by decide, by decide, q1, q2, q3⟩
  have hAO : AGR sz tg mem mem2 31 := fun a w1 w2 w3 _ => funext fun j => by
    obtain ⟨-, -, -, a4, -, -, -, -, a9⟩ := hA
    have e1 : mem1 31 1 = mem 31 1 := hf1 31 1 (by omega)
    rw [a9 a j (by omega) (fun w => by rcases a4 with v | v <;> rcases h31.2.1 with u | u <;> first | omega | (have := u.2.2; rw [← e1, ← v, ← w] at this; omega))]
    exact hf1 a j w2
  have hl27 := h27.len
  have hl28 := h28.len
  have hl29 := h29.len
  have hl30 := h30.len
  have hl31 := h31.len
  have hl32 := h32.len
  have hl33 := h33.len
  have hl34 := h34.len
  have f3 : mem2 3 = mem 3 := (hAA 3 (by decide) (by decide) (by decide)).1
  have f4 : mem2 4 = mem 4 := (hAA 4 (by decide) (by decide) (by decide)).1
  have f5 : mem2 5 = mem 5 := (hAA 5 (by decide) (by decide) (by decide)).1
  have f6 : mem2 6 = mem 6 := (hAA 6 (by decide) (by decide) (by decide)).1
  have hob : ∀ (L' i a : Int), OWN sz tg a (L' * 10000 + 100 * (i + 1)) → 27 ≤ L' ∧ L' ≤ 34 → 0 ≤ i ∧ i ≤ 63 → mem2 a = mem a := fun L' i a q1 q2 q3 => by
    by_cases w : L' = 31
    · exact hAO a q1.1 q1.2.1 (by have := q1.2.2; omega) (by have := q1.2.2; omega)
    · exact (hAA L' (by omega) (by omega) w).own q1 (by omega)
  have hPGE : ∀ P : Int, 0 ≤ P → P < M 35 33 → PGE M M' P := fun P q1 q2 => by
    have w1 := hPF P q1 q2
    have w2 := hPS.2.2 P q1 (by omega)
    refine ⟨fun k u1 u2 => he k P (by omega) (by omega), fun k u1 u2 => he k _ (by omega) (by omega), fun k n u1 u2 u3 u4 => he k _ (by omega) (by omega), fun n u1 u2 => ?_, he 82 P (by omega) (by omega), fun n u1 u2 => he 83 _ (by omega) (by omega), fun n j u1 u2 u3 u4 => ?_⟩
    · rw [he 35 45 (by omega) (by omega)]
      exact slB_cg _ (fun s _ _ => ⟨he 63 s (by omega) (by omega), he 64 s (by omega) (by omega)⟩)
    · rw [he 35 72 (by omega) (by omega)]
      exact pvN_cg _ (fun s _ _ => ⟨he 84 s (by omega) (by omega), he 85 s (by omega) (by omega), he 86 s (by omega) (by omega), he 87 s (by omega) (by omega)⟩)
  refine ⟨?_, ?_, ?_, ?_, ?_, ?_, ?_, ?_, ?_⟩
  · obtain ⟨⟨g1, g2, g3, g4, g5, g6⟩, g7, g8, g9, g10⟩ := h0
    unfold RN
    rw [f3, f4, f5, f6]
    refine ⟨⟨?_, ?_, ?_, ?_, ?_, ?_⟩, fun x y q1 q2 q3 q4 => ?_, ?_, ?_, g10⟩
    · rw [he 35 0 (by omega) (by omega)]; exact g1
    · rw [he 35 2 (by omega) (by omega)]; exact g2
    · rw [he 35 46 (by omega) (by omega)]; exact g3
    · rw [he 35 89 (by omega) (by omega)]; exact g4
    · rw [he 35 72 (by omega) (by omega)]; exact g5
    · rw [he 35 65 (by omega) (by omega)]; exact g6
    · rw [g7 x y q1 q2 q3 q4]
      unfold leftV leftW
      rw [he 35 65 (by omega) (by omega), lsN_cg _ (fun s _ _ => ⟨he 77 s (by omega) (by omega), he 78 s (by omega) (by omega)⟩), he 79 _ (by omega) (by omega), he 80 _ (by omega) (by omega), he 81 _ (by omega) (by omega)]
    · rw [he 35 11 (by omega) (by omega)]; exact g8
    · rw [g9]; exact (funext fun j => he 39 j (by omega) (by omega)).symm
  · exact h27.fr eT htg (hAA 27 (by decide) (by decide) (by decide)) (by omega) (he 35 6 (by omega) (by omega)) (fun i a q1 q2 q3 q4 => q4.tr (hob 27 i a q3 (by omega) (by omega)) (he 36 i (by omega) (by omega)) (he 37 i (by omega) (by omega)) (he 38 i (by omega) (by omega)))
  · exact h28.fr eT htg (hAA 28 (by decide) (by decide) (by decide)) (by omega) (he 35 16 (by omega) (by omega)) (fun i a q1 q2 q3 q4 => q4.tr eT htg ⟨q1, by omega⟩ (hAA 28 (by decide) (by decide) (by decide)).r (hob 28 i a q3 (by omega) (by omega)) (Or.inl (funext fun j => he 41 j (by omega) (by omega))) (he 42 i (by omega) (by omega)))
  · exact h29.fr eT htg (hAA 29 (by decide) (by decide) (by decide)) (by omega) (he 35 33 (by omega) (by omega)) (fun i a q1 q2 q3 q4 => q4.tr eT htg ⟨q1, by omega⟩ (hAA 29 (by decide) (by decide) (by decide)).r (hob 29 i a q3 (by omega) (by omega)) (hPGE i q1 q2))
  · exact h30.fr eT htg (hAA 30 (by decide) (by decide) (by decide)) (by omega) (he 35 45 (by omega) (by omega)) (fun i a q1 q2 q3 q4 => q4.tr (hob 30 i a q3 (by omega) (by omega)) (fun k w1 w2 => he k i (by omega) (by omega)))
  · exact h31.add hN hcnt hE1 hf1 hA hz2 hE2 he0 hke hs htg ht1 hte (by decide) (fun i a q1 q2 q3 q4 => q4.tr eT htg ⟨q1, by omega⟩ hAO (hob 31 i a q3 (by omega) (by omega)) (he 88 i (by omega) (by omega)) (by have := hCP.2.2 i q1 (by omega); exact he 47 _ (by omega) (by omega)) (fun n w1 w2 => by have := hCP.2.2 i q1 (by omega); have := hPS.2.2 (M 88 i) (by omega) (by omega); exact he 89 _ (by omega) (by omega))) hOe
  · exact h32.fr eT htg (hAA 32 (by decide) (by decide) (by decide)) (by omega) (he 35 84 (by omega) (by omega)) (fun i a q1 q2 q3 q4 => q4.tr eT htg ⟨q1, by omega⟩ (hAA 32 (by decide) (by decide) (by decide)).r (hob 32 i a q3 (by omega) (by omega)) (he 94 i (by omega) (by omega)) (fun n w1 w2 => ⟨he 95 _ (by omega) (by omega), he 96 _ (by omega) (by omega)⟩))
  · exact h33.fr eT htg (hAA 33 (by decide) (by decide) (by decide)) (by omega) (he 35 80 (by omega) (by omega)) (fun i a q1 q2 q3 q4 => q4.tr (hob 33 i a q3 (by omega) (by omega)) (fun k w1 w2 => he k i (by omega) (by omega)))
  · exact h34.fr eT htg (hAA 34 (by decide) (by decide) (by decide)) (by omega) (he 35 88 (by omega) (by omega)) (fun i a q1 q2 q3 q4 => q4.tr eT htg ⟨q1, by omega⟩ (hAA 34 (by decide) (by decide) (by decide)).r (hob 34 i a q3 (by omega) (by omega)) (he 97 i (by omega) (by omega)) (he 98 i (by omega) (by omega)) (fun n w1 w2 => he 99 _ (by omega) (by omega)))
set_option maxHeartbeats 4000000 in
theorem GRP.add32 {kd kd1 kd2 : Int → Nat} {ln ln1 ln2 : Int → Int} {mem mem1 mem2 M M' : Int → Int → Int} {sz sz1 sz2 : Nat} {tg tg2 : Int → Int} {e : Int} (h : GRP kd ln mem sz tg M) (hMI : MI M) (hs : 101 ≤ sz) (hN : M 35 84 ≤ 61) (hE1 : EXT kd ln sz kd1 ln1 sz1) (hf1 : ∀ b j : Int, b < sz → mem1 b j = mem b j) (hA : ADDP ln1 mem1 sz1 32 e kd2 ln2 mem2) (hz2 : mem2 32 1 < sz2) (hE2 : EXT kd1 ln1 sz1 kd2 ln2 sz2) (he0 : sz ≤ e ∧ e < sz1) (hke : kd1 e = 11) (htg : TGX sz tg tg2) (ht1 : tg2 sz1 = 32 * 10000) (hte : tg2 e = 32 * 10000 + 100 * (M 35 84 + 1)) (hcnt : M' 35 84 = M 35 84 + 1) (he : ∀ x j : Int, SC x j → ¬ ((x = 94 ∧ j = M 35 84) ∨ (x = 35 ∧ j = 84)) → M' x j = M x j) (hOe : O32 kd2 ln2 mem2 sz2 tg2 M' (M 35 84) e) : GRP kd2 ln2 mem2 sz2 tg2 M' := by
  obtain ⟨h0, h27, h28, h29, h30, h31, h32, h33, h34⟩ := h
  obtain ⟨-, -, -, -, -, hPS, hPF, hSL, -, -, -, -, -, -, -, -, -, -, hCP, -⟩ := id hMI
  have z1 := hE1.1
  have eT := hE1.tr hE2
  have hAA : ∀ L' : Int, 3 ≤ L' → L' ≤ 34 → L' ≠ 32 → AG sz tg mem mem2 L' := fun L' q1 q2 q3 => hA.ag h32.2.1 hf1 (by omega) hs ⟨by decide, by decide, q1, q2, q3⟩
  have hAO : AGR sz tg mem mem2 32 := fun a w1 w2 w3 _ => funext fun j => by
    obtain ⟨-, -, -, a4, -, -, -, -, a9⟩ := hA
    have e1 : mem1 32 1 = mem 32 1 := hf1 32 1 (by omega)
    rw [a9 a j (by omega) (fun w => by rcases a4 with v | v <;> rcases h32.2.1 with u | u <;> first | omega | (have := u.2.2; rw [← e1, ← v, ← w] at this; omega))]
    exact hf1 a j w2
  have hl27 := h27.len
  have hl28 := h28.len
  have hl29 := h29.len
  have hl30 := h30.len
  have hl31 := h31.len
  have hl32 := h32.len
  have hl33 := h33.len
  have hl34 := h34.len
  have f3 : mem2 3 = mem 3 := (hAA 3 (by decide) (by decide) (by decide)).1
  have f4 : mem2 4 = mem 4 := (hAA 4 (by decide) (by decide) (by decide)).1
  have f5 : mem2 5 = mem 5 := (hAA 5 (by decide) (by decide) (by decide)).1
  have f6 : mem2 6 = mem 6 := (hAA 6 (by decide) (by decide) (by decide)).1
  have hob : ∀ (L' i a : Int), OWN sz tg a (L' * 10000 + 100 * (i + 1)) → 27 ≤ L' ∧ L' ≤ 34 → 0 ≤ i ∧ i ≤ 63 → mem2 a = mem a := fun L' i a q1 q2 q3 => by
    by_cases w : L' = 32
    · exact hAO a q1.1 q1.2.1 (by have := q1.2.2; omega) (by have := q1.2.2; omega)
    · exact (hAA L' (by omega) (by omega) w).own q1 (by omega)
  have hPGE : ∀ P : Int, 0 ≤ P → P < M 35 33 → PGE M M' P := fun P q1 q2 => by
    have w1 := hPF P q1 q2
    have w2 := hPS.2.2 P q1 (by omega)
    refine ⟨fun k u1 u2 => he k P (by omega) (by omega), fun k u1 u2 => he k _ (by omega) (by omega), fun k n u1 u2 u3 u4 => he k _ (by omega) (by omega), fun n u1 u2 => ?_, he 82 P (by omega) (by omega), fun n u1 u2 => he 83 _ (by omega) (by omega), fun n j u1 u2 u3 u4 => ?_⟩
    · rw [he 35 45 (by omega) (by omega)]
      exact slB_cg _ (fun s _ _ => ⟨he 63 s (by omega) (by omega), he 64 s (by omega) (by omega)⟩)
    · rw [he 35 72 (by omega) (by omega)]
      exact pvN_cg _ (fun s _ _ => ⟨he 84 s (by omega) (by omega), he 85 s (by omega) (by omega), he 86 s (by omega) (by omega), he 87 s (by omega) (by omega)⟩)
  refine ⟨?_, ?_, ?_, ?_, ?_, ?_, ?_, ?_, ?_⟩
  · obtain ⟨⟨g1, g2, g3, g4, g5, g6⟩, g7, g8, g9, g10⟩ := h0
    unfold RN
    rw [f3, f4, f5, f6]
    refine ⟨⟨?_, ?_, ?_, ?_, ?_, ?_⟩, fun x y q1 q2 q3 q4 => ?_, ?_, ?_, g10⟩
    · rw [he 35 0 (by omega) (by omega)]; exact g1
    · rw [he 35 2 (by omega) (by omega)]; exact g2
    · rw [he 35 46 (by omega) (by omega)]; exact g3
    · rw [he 35 89 (by omega) (by omega)]; exact g4
    · rw [he 35 72 (by omega) (by omega)]; exact g5
    · rw [he 35 65 (by omega) (by omega)]; exact g6
    · rw [g7 x y q1 q2 q3 q4]
      unfold leftV leftW
      rw [he 35 65 (by omega) (by omega), lsN_cg _ (fun s _ _ => ⟨he 77 s (by omega) (by omega), he 78 s (by omega) (by omega)⟩), he 79 _ (by omega) (by omega), he 80 _ (by omega) (by omega), he 81 _ (by omega) (by omega)]
    · rw [he 35 11 (by omega) (by omega)]; exact g8
    · rw [g9]; exact (funext fun j => he 39 j (by omega) (by omega)).symm
  · exact h27.fr eT htg (hAA 27 (by decide) (by decide) (by decide)) (by omega) (he 35 6 (by omega) (by omega)) (fun i a q1 q2 q3 q4 => q4.tr (hob 27 i a q3 (by omega) (by omega)) (he 36 i (by omega) (by omega)) (he 37 i (by omega) (by omega)) (he 38 i (by omega) (by omega)))
  · exact h28.fr eT htg (hAA 28 (by decide) (by decide) (by decide)) (by omega) (he 35 16 (by omega) (by omega)) (fun i a q1 q2 q3 q4 => q4.tr eT htg ⟨q1, by omega⟩ (hAA 28 (by decide) (by decide) (by decide)).r (hob 28 i a q3 (by omega) (by omega)) (Or.inl (funext fun j => he 41 j (by omega) (by omega))) (he 42 i (by omega) (by omega)))
  · exact h29.fr eT htg (hAA 29 (by decide) (by decide) (by decide)) (by omega) (he 35 33 (by omega) (by omega)) (fun i a q1 q2 q3 q4 => q4.tr eT htg ⟨q1, by omega⟩ (hAA 29 (by decide) (by decide) (by decide)).r (hob 29 i a q3 (by omega) (by omega)) (hPGE i q1 q2))
  · exact h30.fr eT htg (hAA 30 (by decide) (by decide) (by decide)) (by omega) (he 35 45 (by omega) (by omega)) (fun i a q1 q2 q3 q4 => q4.tr (hob 30 i a q3 (by omega) (by omega)) (fun k w1 w2 => he k i (by omega) (by omega)))
  · exact h31.fr eT htg (hAA 31 (by decide) (by decide) (by decide)) (by omega) (he 35 79 (by omega) (by omega)) (fun i a q1 q2 q3 q4 => q4.tr eT htg ⟨q1, by omega⟩ (hAA 31 (by decide) (by decide) (by decide)).r (hob 31 i a q3 (by omega) (by omega)) (he 88 i (by omega) (by omega)) (by have := hCP.2.2 i q1 (by omega); exact he 47 _ (by omega) (by omega)) (fun n w1 w2 => by have := hCP.2.2 i q1 (by omega); have := hPS.2.2 (M 88 i) (by omega) (by omega); exact he 89 _ (by omega) (by omega)))
  · exact h32.add hN hcnt hE1 hf1 hA hz2 hE2 he0 hke hs htg ht1 hte (by decide) (fun i a q1 q2 q3 q4 => q4.tr eT htg ⟨q1, by omega⟩ hAO (hob 32 i a q3 (by omega) (by omega)) (he 94 i (by omega) (by omega)) (fun n w1 w2 => ⟨he 95 _ (by omega) (by omega), he 96 _ (by omega) (by omega)⟩)) hOe
  · exact h33.fr eT htg (hAA 33 (by decide) (by decide) (by decide)) (by omega) (he 35 80 (by omega) (by omega)) (fun i a q1 q2 q3 q4 => q4.tr (hob 33 i a q3 (by omega) (by omega)) (fun k w1 w2 => he k i (by omega) (by omega)))
  · exact h34.fr eT htg (hAA 34 (by decide) (by decide) (by decide)) (by omega) (he 35 88 (by omega) (by omega)) (fun i a q1 q2 q3 q4 => q4.tr eT htg ⟨q1, by omega⟩ (hAA 34 (by decide) (by decide) (by decide)).r (hob 34 i a q3 (by omega) (by omega)) (he 97 i (by omega) (by omega)) (he 98 i (by omega) (by omega)) (fun n w1 w2 => he 99 _ (by omega) (by omega)))
set_option maxHeartbeats 4000000 in
theorem GRP.add33 {kd kd1 kd2 : Int → Nat} {ln ln1 ln2 : Int → Int} {mem mem1 mem2 M M' : Int → Int → Int} {sz sz1 sz2 : Nat} {tg tg2 : Int → Int} {e : Int} (h : GRP kd ln mem sz tg M) (hMI : MI M) (hs : 101 ≤ sz) (hN : M 35 80 ≤ 61) (hE1 : EXT kd ln sz kd1 ln1 sz1) (hf1 : ∀ b j : Int, b < sz → mem1 b j = mem b j) (hA : ADDP ln1 mem1 sz1 33 e kd2 ln2 mem2) (hz2 : mem2 33 1 < sz2) (hE2 : EXT kd1 ln1 sz1 kd2 ln2 sz2) (he0 : sz ≤ e ∧ e < sz1) (hke : kd1 e = 3) (htg : TGX sz tg tg2) (ht1 : tg2 sz1 = 33 * 10000) (hte : tg2 e = 33 * 10000 + 100 * (M 35 80 + 1)) (hcnt : M' 35 80 = M 35 80 + 1) (he : ∀ x j : Int, SC x j → ¬ ((90 ≤ x ∧ x ≤ 93 ∧ j = M 35 80) ∨ (x = 35 ∧ j = 80)) → M' x j = M x j) (hOe : O33 mem2 M' (M 35 80) e) : GRP kd2 ln2 mem2 sz2 tg2 M' := by
  obtain ⟨h0, h27, h28, h29, h30, h31, h32, h33, h34⟩ := h
  obtain ⟨-, -, -, -, -, hPS, hPF, hSL, -, -, -, -, -, -, -, -, -, -, hCP, -⟩ := id hMI
  have z1 := hE1.1
  have eT := hE1.tr hE2
  have hAA : ∀ L' : Int, 3 ≤ L' → L' ≤ 34 → L' ≠ 33 → AG sz tg mem mem2 L' := fun L' q1 q2 q3 => hA.ag h33.2.1 hf1 (by omega) hs ⟨by decide, by decide, q1, q2, q3⟩
  have hAO : AGR sz tg mem mem2 33 := fun a w1 w2 w3 _ => funext fun j => by
    obtain ⟨-, -, -, a4, -, -, -, -, a9⟩ := hA
    have e1 : mem1 33 1 = mem 33 1 := hf1 33 1 (by omega)
    rw [a9 a j (by omega) (fun w => by rcases a4 with v | v <;> rcases h33.2.1 with u | u <;> first | omega | (have := u.2.2; rw [← e1, ← v, ← w] at this; omega))]
    exact hf1 a j w2
  have hl27 := h27.len
  have hl28 := h28.len
  have hl29 := h29.len
  have hl30 := h30.len
  have hl31 := h31.len
  have hl32 := h32.len
  have hl33 := h33.len
  have hl34 := h34.len
  have f3 : mem2 3 = mem 3 := (hAA 3 (by decide) (by decide) (by decide)).1
  have f4 : mem2 4 = mem 4 := (hAA 4 (by decide) (by decide) (by decide)).1
  have f5 : mem2 5 = mem 5 := (hAA 5 (by decide) (by decide) (by decide)).1
  have f6 : mem2 6 = mem 6 := (hAA 6 (by decide) (by decide) (by decide)).1
  have hob : ∀ (L' i a : Int), OWN sz tg a (L' * 10000 + 100 * (i + 1)) → 27 ≤ L' ∧ L' ≤ 34 → 0 ≤ i ∧ i ≤ 63 → mem2 a = mem a := fun L' i a q1 q2 q3 => by
    by_cases w : L' = 33
    · exact hAO a q1.1 q1.2.1 (by have := q1.2.2; omega) (by have := q1.2.2; omega)
    · exact (hAA L' (by omega) (by omega) w).own q1 (by omega)
  have hPGE : ∀ P : Int, 0 ≤ P → P < M 35 33 → PGE M M' P := fun P q1 q2 => by
    have w1 := hPF P q1 q2
    have w2 := hPS.2.2 P q1 (by omega)
    refine ⟨fun k u1 u2 => he k P (by omega) (by omega), fun k u1 u2 => he k _ (by omega) (by omega), fun k n u1 u2 u3 u4 => he k _ (by omega) (by omega), fun n u1 u2 => ?_, he 82 P (by omega) (by omega), fun n u1 u2 => he 83 _ (by omega) (by omega), fun n j u1 u2 u3 u4 => ?_⟩
    · rw [he 35 45 (by omega) (by omega)]
      exact slB_cg _ (fun s _ _ => ⟨he 63 s (by omega) (by omega), he 64 s (by omega) (by omega)⟩)
    · rw [he 35 72 (by omega) (by omega)]
      exact pvN_cg _ (fun s _ _ => ⟨he 84 s (by omega) (by omega), he 85 s (by omega) (by omega), he 86 s (by omega) (by omega), he 87 s (by omega) (by omega)⟩)
  refine ⟨?_, ?_, ?_, ?_, ?_, ?_, ?_, ?_, ?_⟩
  · obtain ⟨⟨g1, g2, g3, g4, g5, g6⟩, g7, g8, g9, g10⟩ := h0
    unfold RN
    rw [f3, f4, f5, f6]
    refine ⟨⟨?_, ?_, ?_, ?_, ?_, ?_⟩, fun x y q1 q2 q3 q4 => ?_, ?_, ?_, g10⟩
    · rw [he 35 0 (by omega) (by omega)]; exact g1
    · rw [he 35 2 (by omega) (by omega)]; exact g2
    · rw [he 35 46 (by omega) (by omega)]; exact g3
    · rw [he 35 89 (by omega) (by omega)]; exact g4
    · rw [he 35 72 (by omega) (by omega)]; exact g5
    · rw [he 35 65 (by omega) (by omega)]; exact g6
    · rw [g7 x y q1 q2 q3 q4]
      unfold leftV leftW
      rw [he 35 65 (by omega) (by omega), lsN_cg _ (fun s _ _ => ⟨he 77 s (by omega) (by omega), he 78 s (by omega) (by omega)⟩), he 79 _ (by omega) (by omega), he 80 _ (by omega) (by omega), he 81 _ (by omega) (by omega)]
    · rw [he 35 11 (by omega) (by omega)]; exact g8
    · rw [g9]; exact (funext fun j => he 39 j (by omega) (by omega)).symm
  · exact h27.fr eT htg (hAA 27 (by decide) (by decide) (by decide)) (by omega) (he 35 6 (by omega) (by omega)) (fun i a q1 q2 q3 q4 => q4.tr (hob 27 i a q3 (by omega) (by omega)) (he 36 i (by omega) (by omega)) (he 37 i (by omega) (by omega)) (he 38 i (by omega) (by omega)))
  · exact h28.fr eT htg (hAA 28 (by decide) (by decide) (by decide)) (by omega) (he 35 16 (by omega) (by omega)) (fun i a q1 q2 q3 q4 => q4.tr eT htg ⟨q1, by omega⟩ (hAA 28 (by decide) (by decide) (by decide)).r (hob 28 i a q3 (by omega) (by omega)) (Or.inl (funext fun j => he 41 j (by omega) (by omega))) (he 42 i (by omega) (by omega)))
  · exact h29.fr eT htg (hAA 29 (by decide) (by decide) (by decide)) (by omega) (he 35 33 (by omega) (by omega)) (fun i a q1 q2 q3 q4 => q4.tr eT htg ⟨q1, by omega⟩ (hAA 29 (by decide) (by decide) (by decide)).r (hob 29 i a q3 (by omega) (by omega)) (hPGE i q1 q2))
  · exact h30.fr eT htg (hAA 30 (by decide) (by decide) (by decide)) (by omega) (he 35 45 (by omega) (by omega)) (fun i a q1 q2 q3 q4 => q4.tr (hob 30 i a q3 (by omega) (by omega)) (fun k w1 w2 => he k i (by omega) (by omega)))
  · exact h31.fr eT htg (hAA 31 (by decide) (by decide) (by decide)) (by omega) (he 35 79 (by omega) (by omega)) (fun i a q1 q2 q3 q4 => q4.tr eT htg ⟨q1, by omega⟩ (hAA 31 (by decide) (by decide) (by decide)).r (hob 31 i a q3 (by omega) (by omega)) (he 88 i (by omega) (by omega)) (by have := hCP.2.2 i q1 (by omega); exact he 47 _ (by omega) (by omega)) (fun n w1 w2 => by have := hCP.2.2 i q1 (by omega); have := hPS.2.2 (M 88 i) (by omega) (by omega); exact he 89 _ (by omega) (by omega)))
  · exact h32.fr eT htg (hAA 32 (by decide) (by decide) (by decide)) (by omega) (he 35 84 (by omega) (by omega)) (fun i a q1 q2 q3 q4 => q4.tr eT htg ⟨q1, by omega⟩ (hAA 32 (by decide) (by decide) (by decide)).r (hob 32 i a q3 (by omega) (by omega)) (he 94 i (by omega) (by omega)) (fun n w1 w2 => ⟨he 95 _ (by omega) (by omega), he 96 _ (by omega) (by omega)⟩))
  · exact h33.add hN hcnt hE1 hf1 hA hz2 hE2 he0 hke hs htg ht1 hte (by decide) (fun i a q1 q2 q3 q4 => q4.tr (hob 33 i a q3 (by omega) (by omega)) (fun k w1 w2 => he k i (by omega) (by omega))) hOe
  · exact h34.fr eT htg (hAA 34 (by decide) (by decide) (by decide)) (by omega) (he 35 88 (by omega) (by omega)) (fun i a q1 q2 q3 q4 => q4.tr eT htg ⟨q1, by omega⟩ (hAA 34 (by decide) (by decide) (by decide)).r (hob 34 i a q3 (by omega) (by omega)) (he 97 i (by omega) (by omega)) (he 98 i (by omega) (by omega)) (fun n w1 w2 => he 99 _ (by omega) (by omega)))
set_option maxHeartbeats 4000000 in
theorem GRP.add34 {kd kd1 kd2 : Int → Nat} {ln ln1 ln2 : Int → Int} {mem mem1 mem2 M M' : Int → Int → Int} {sz sz1 sz2 : Nat} {tg tg2 : Int → Int} {e : Int} (h : GRP kd ln mem sz tg M) (hMI : MI M) (hs : 101 ≤ sz) (hN : M 35 88 ≤ 61) (hE1 : EXT kd ln sz kd1 ln1 sz1) (hf1 : ∀ b j : Int, b < sz → mem1 b j = mem b j) (hA : ADDP ln1 mem1 sz1 34 e kd2 ln2 mem2) (hz2 : mem2 34 1 < sz2) (hE2 : EXT kd1 ln1 sz1 kd2 ln2 sz2) (he0 : sz ≤ e ∧ e < sz1) (hke : kd1 e = 9) (htg : TGX sz tg tg2) (ht1 : tg2 sz1 = 34 * 10000) (hte : tg2 e = 34 * 10000 + 100 * (M 35 88 + 1)) (hcnt : M' 35 88 = M 35 88 + 1) (he : ∀ x j : Int, SC x j → ¬ ((x = 97 ∧ j = M 35 88) ∨ (x = 35 ∧ j = 88)) → M' x j = M x j) (hOe : O34 kd2 ln2 mem2 sz2 tg2 M' (M 35 88) e) : GRP kd2 ln2 mem2 sz2 tg2 M' := by
  obtain ⟨h0, h27, h28, h29, h30, h31, h32, h33, h34⟩ := h
  obtain ⟨-, -, -, -, -, hPS, hPF, hSL, -, -, -, -, -, -, -, -, -, -, hCP, -⟩ := id hMI
  have z1 := hE1.1
  have eT := hE1.tr hE2
  have hAA : ∀ L' : Int, 3 ≤ L' → L' ≤ 34 → L' ≠ 34 → AG sz tg mem mem2 L' := fun L' q1 q2 q3 => hA.ag h34.2.1 hf1 (by omega) hs ⟨by decide, by decide, q1, q2, q3⟩
  have hAO : AGR sz tg mem mem2 34 := fun a w1 w2 w3 _ => funext fun j => by
    obtain ⟨-, -, -, a4, -, -, -, -, a9⟩ := hA
    have e1 : mem1 34 1 = mem 34 1 := hf1 34 1 (by omega)
    rw [a9 a j (by omega) (fun w => by rcases a4 with v | v <;> rcases h34.2.1 with u | u <;> first | omega | (have := u.2.2; rw [← e1, ← v, ← w] at this; omega))]
    exact hf1 a j w2
  have hl27 := h27.len
  have hl28 := h28.len
  have hl29 := h29.len
  have hl30 := h30.len
  have hl31 := h31.len
  have hl32 := h32.len
  have hl33 := h33.len
  have hl34 := h34.len
  have f3 : mem2 3 = mem 3 := (hAA 3 (by decide) (by decide) (by decide)).1
  have f4 : mem2 4 = mem 4 := (hAA 4 (by decide) (by decide) (by decide)).1
  have f5 : mem2 5 = mem 5 := (hAA 5 (by decide) (by decide) (by decide)).1
  have f6 : mem2 6 = mem 6 := (hAA 6 (by decide) (by decide) (by decide)).1
  have hob : ∀ (L' i a : Int), OWN sz tg a (L' * 10000 + 100 * (i + 1)) → 27 ≤ L' ∧ L' ≤ 34 → 0 ≤ i ∧ i ≤ 63 → mem2 a = mem a := fun L' i a q1 q2 q3 => by
    by_cases w : L' = 34
    · exact hAO a q1.1 q1.2.1 (by have := q1.2.2; omega) (by have := q1.2.2; omega)
    · exact (hAA L' (by omega) (by omega) w).own q1 (by omega)
  have hPGE : ∀ P : Int, 0 ≤ P → P < M 35 33 → PGE M M' P := fun P q1 q2 => by
    have w1 := hPF P q1 q2
    have w2 := hPS.2.2 P q1 (by omega)
    refine ⟨fun k u1 u2 => he k P (by omega) (by omega), fun k u1 u2 => he k _ (by omega) (by omega), fun k n u1 u2 u3 u4 => he k _ (by omega) (by omega), fun n u1 u2 => ?_, he 82 P (by omega) (by omega), fun n u1 u2 => he 83 _ (by omega) (by omega), fun n j u1 u2 u3 u4 => ?_⟩
    · rw [he 35 45 (by omega) (by omega)]
      exact slB_cg _ (fun s _ _ => ⟨he 63 s (by omega) (by omega), he 64 s (by omega) (by omega)⟩)
    · rw [he 35 72 (by omega) (by omega)]
      exact pvN_cg _ (fun s _ _ => ⟨he 84 s (by omega) (by omega), he 85 s (by omega) (by omega), he 86 s (by omega) (by omega), he 87 s (by omega) (by omega)⟩)
  refine ⟨?_, ?_, ?_, ?_, ?_, ?_, ?_, ?_, ?_⟩
  · obtain ⟨⟨g1, g2, g3, g4, g5, g6⟩, g7, g8, g9, g10⟩ := h0
    unfold RN
    rw [f3, f4, f5, f6]
    refine ⟨⟨?_, ?_, ?_, ?_, ?_, ?_⟩, fun x y q1 q2 q3 q4 => ?_, ?_, ?_, g10⟩
    · rw [he 35 0 (by omega) (by omega)]; exact g1
    · rw [he 35 2 (by omega) (by omega)]; exact g2
    · rw [he 35 46 (by omega) (by omega)]; exact g3
    · rw [he 35 89 (by omega) (by omega)]; exact g4
    · rw [he 35 72 (by omega) (by omega)]; exact g5
    · rw [he 35 65 (by omega) (by omega)]; exact g6
    · rw [g7 x y q1 q2 q3 q4]
      unfold leftV leftW
      rw [he 35 65 (by omega) (by omega), lsN_cg _ (fun s _ _ => ⟨he 77 s (by omega) (by omega), he 78 s (by omega) (by omega)⟩), he 79 _ (by omega) (by omega), he 80 _ (by omega) (by omega), he 81 _ (by omega) (by omega)]
    · rw [he 35 11 (by omega) (by omega)]; exact g8
    · rw [g9]; exact (funext fun j => he 39 j (by omega) (by omega)).symm
  · exact h27.fr eT htg (hAA 27 (by decide) (by decide) (by decide)) (by omega) (he 35 6 (by omega) (by omega)) (fun i a q1 q2 q3 q4 => q4.tr (hob 27 i a q3 (by omega) (by omega)) (he 36 i (by omega) (by omega)) (he 37 i (by omega) (by omega)) (he 38 i (by omega) (by omega)))
  · exact h28.fr eT htg (hAA 28 (by decide) (by decide) (by decide)) (by omega) (he 35 16 (by omega) (by omega)) (fun i a q1 q2 q3 q4 => q4.tr eT htg ⟨q1, by omega⟩ (hAA 28 (by decide) (by decide) (by decide)).r (hob 28 i a q3 (by omega) (by omega)) (Or.inl (funext fun j => he 41 j (by omega) (by omega))) (he 42 i (by omega) (by omega)))
  · exact h29.fr eT htg (hAA 29 (by decide) (by decide) (by decide)) (by omega) (he 35 33 (by omega) (by omega)) (fun i a q1 q2 q3 q4 => q4.tr eT htg ⟨q1, by omega⟩ (hAA 29 (by decide) (by decide) (by decide)).r (hob 29 i a q3 (by omega) (by omega)) (hPGE i q1 q2))
  · exact h30.fr eT htg (hAA 30 (by decide) (by decide) (by decide)) (by omega) (he 35 45 (by omega) (by omega)) (fun i a q1 q2 q3 q4 => q4.tr (hob 30 i a q3 (by omega) (by omega)) (fun k w1 w2 => he k i (by omega) (by omega)))
  · exact h31.fr eT htg (hAA 31 (by decide) (by decide) (by decide)) (by omega) (he 35 79 (by omega) (by omega)) (fun i a q1 q2 q3 q4 => q4.tr eT htg ⟨q1, by omega⟩ (hAA 31 (by decide) (by decide) (by decide)).r (hob 31 i a q3 (by omega) (by omega)) (he 88 i (by omega) (by omega)) (by have := hCP.2.2 i q1 (by omega); exact he 47 _ (by omega) (by omega)) (fun n w1 w2 => by have := hCP.2.2 i q1 (by omega); have := hPS.2.2 (M 88 i) (by omega) (by omega); exact he 89 _ (by omega) (by omega)))
  · exact h32.fr eT htg (hAA 32 (by decide) (by decide) (by decide)) (by omega) (he 35 84 (by omega) (by omega)) (fun i a q1 q2 q3 q4 => q4.tr eT htg ⟨q1, by omega⟩ (hAA 32 (by decide) (by decide) (by decide)).r (hob 32 i a q3 (by omega) (by omega)) (he 94 i (by omega) (by omega)) (fun n w1 w2 => ⟨he 95 _ (by omega) (by omega), he 96 _ (by omega) (by omega)⟩))
  · exact h33.fr eT htg (hAA 33 (by decide) (by decide) (by decide)) (by omega) (he 35 80 (by omega) (by omega)) (fun i a q1 q2 q3 q4 => q4.tr (hob 33 i a q3 (by omega) (by omega)) (fun k w1 w2 => he k i (by omega) (by omega)))
  · exact h34.add hN hcnt hE1 hf1 hA hz2 hE2 he0 hke hs htg ht1 hte (by decide) (fun i a q1 q2 q3 q4 => q4.tr eT htg ⟨q1, by omega⟩ hAO (hob 34 i a q3 (by omega) (by omega)) (he 97 i (by omega) (by omega)) (he 98 i (by omega) (by omega)) (fun n w1 w2 => he 99 _ (by omega) (by omega))) hOe
end ADDS
