section NUMS
theorem GRP.nums {kd : Int → Nat} {ln : Int → Int} {mem mm M M' : Int → Int → Int} {sz : Nat} {tg : Int → Int} (h : GRP kd ln mem sz tg M) (hs : 101 ≤ sz) (hc : ∀ a j : Int, (27 ≤ a ∧ a ≤ 34) ∨ (101 ≤ a ∧ a < sz) → mm a j = mem a j) (he : ∀ x j : Int, SC x j → x ≠ 39 → ¬ (77 ≤ x ∧ x ≤ 81) → ¬ (x = 35 ∧ (j = 0 ∨ j = 2 ∨ j = 46 ∨ j = 89 ∨ j = 65 ∨ j = 11)) → M' x j = M x j) (hRN : RN mm M') : GRP kd ln mm sz tg M' := by
  obtain ⟨h0, h27, h28, h29, h30, h31, h32, h33, h34⟩ := h
  have hA : ∀ L : Int, 27 ≤ L → L ≤ 34 → AG sz tg mem mm L := fun L q1 q2 => ⟨funext fun j => hc L j (by omega), fun a w1 w2 _ _ => funext fun j => hc a j (by omega)⟩
  have ho : ∀ a : Int, 101 ≤ a ∧ a < sz → mm a = mem a := fun a w => funext fun j => hc a j (by omega)
  have hE : EXT kd ln sz kd ln sz := EXT.rf
  have ht : TGX sz tg tg := fun _ _ => rfl
  have hl28 := h28.len
  have hl29 := h29.len
  have hl31 := h31.len
  have hl32 := h32.len
  have hl34 := h34.len
  refine ⟨hRN, ?_, ?_, ?_, ?_, ?_, ?_, ?_, ?_⟩
  · exact h27.fr hE ht (hA 27 (by decide) (by decide)) (by omega) (he 35 6 (by omega) (by omega) (by omega) (by omega)) (fun i a q1 q2 q3 q4 => q4.tr (ho a ⟨q3.1, q3.2.1⟩) (he 36 _ (by omega) (by omega) (by omega) (by omega)) (he 37 _ (by omega) (by omega) (by omega) (by omega)) (he 38 _ (by omega) (by omega) (by omega) (by omega)))
  · exact h28.fr hE ht (hA 28 (by decide) (by decide)) (by omega) (he 35 16 (by omega) (by omega) (by omega) (by omega)) (fun i a q1 q2 q3 q4 => q4.tr hE ht ⟨q1, by omega⟩ (hA 28 (by decide) (by decide)).r (ho a ⟨q3.1, q3.2.1⟩) (Or.inl (funext fun j => he 41 j (by omega) (by omega) (by omega) (by omega))) (he 42 _ (by omega) (by omega) (by omega) (by omega)))
  · exact h29.fr hE ht (hA 29 (by decide) (by decide)) (by omega) (he 35 33 (by omega) (by omega) (by omega) (by omega)) (fun i a q1 q2 q3 q4 => q4.tr hE ht ⟨q1, by omega⟩ (hA 29 (by decide) (by decide)).r (ho a ⟨q3.1, q3.2.1⟩) (PGE.of fun k j w => he k j (by omega) (by omega) (by omega) (by omega)))
  · exact h30.fr hE ht (hA 30 (by decide) (by decide)) (by omega) (he 35 45 (by omega) (by omega) (by omega) (by omega)) (fun i a q1 q2 q3 q4 => q4.tr (ho a ⟨q3.1, q3.2.1⟩) (fun k w1 w2 => he k i (by omega) (by omega) (by omega) (by omega)))
  · exact h31.fr hE ht (hA 31 (by decide) (by decide)) (by omega) (he 35 79 (by omega) (by omega) (by omega) (by omega)) (fun i a q1 q2 q3 q4 => q4.tr hE ht ⟨q1, by omega⟩ (hA 31 (by decide) (by decide)).r (ho a ⟨q3.1, q3.2.1⟩) (he 88 _ (by omega) (by omega) (by omega) (by omega)) (he 47 _ (by omega) (by omega) (by omega) (by omega)) (fun n _ _ => (he 89 _ (by omega) (by omega) (by omega) (by omega))))
  · exact h32.fr hE ht (hA 32 (by decide) (by decide)) (by omega) (he 35 84 (by omega) (by omega) (by omega) (by omega)) (fun i a q1 q2 q3 q4 => q4.tr hE ht ⟨q1, by omega⟩ (hA 32 (by decide) (by decide)).r (ho a ⟨q3.1, q3.2.1⟩) (he 94 _ (by omega) (by omega) (by omega) (by omega)) (fun n _ _ => ⟨(he 95 _ (by omega) (by omega) (by omega) (by omega)), (he 96 _ (by omega) (by omega) (by omega) (by omega))⟩))
  · exact h33.fr hE ht (hA 33 (by decide) (by decide)) (by omega) (he 35 80 (by omega) (by omega) (by omega) (by omega)) (fun i a q1 q2 q3 q4 => q4.tr (ho a ⟨q3.1, q3.2.1⟩) (fun k w1 w2 => he k i (by omega) (by omega) (by omega) (by omega)))
  · exact h34.fr hE ht (hA 34 (by decide) (by decide)) (by omega) (he 35 88 (by omega) (by omega) (by omega) (by omega)) (fun i a q1 q2 q3 q4 => q4.tr hE ht ⟨q1, by omega⟩ (hA 34 (by decide) (by decide)).r (ho a ⟨q3.1, q3.2.1⟩) (he 97 _ (by omega) (by omega) (by omega) (by omega)) (he 98 _ (by omega) (by omega) (by omega) (by omega)) (fun n _ _ => (he 99 _ (by omega) (by omega) (by omega) (by omega))))
end NUMS
