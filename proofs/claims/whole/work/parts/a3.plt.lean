section
variable {kd kd' : Int → Nat} {ln ln' : Int → Int} {mem mm M' : Int → Int → Int} {sz sz' : Nat} {tg tg' : Int → Int} {p v : Int}
set_option maxHeartbeats 4000000 in
/-- the plate of a page, its press slips are told anew -/
theorem GRP.plt (hI : INV kd ln mem sz tg) (hv : PAGV kd ln mem sz tg p v) (hpg : isPg mem p) (hE : EXT kd ln sz kd' ln' sz') (ht : TGX sz tg tg') (hc : ∀ a j : Int, (3 ≤ a ∧ a ≤ 6 ∧ ¬ (a = 3 ∧ j = 4)) ∨ (27 ≤ a ∧ a ≤ 34) ∨ (101 ≤ a ∧ a < sz ∧ a ≠ mem v 18 ∧ ¬ (tg a = 290000 + 100 * (p + 1) + 17) ∧ ¬ (a = v ∧ j = 17)) → mm a j = mem a j) (he : ∀ x j : Int, SC x j → ¬ (x = 82 ∧ j = p) → ¬ (x = 83 ∧ 40 * p ≤ j ∧ j < 40 * p + 40) → ¬ (84 ≤ x ∧ x ≤ 87) → ¬ (x = 35 ∧ j = 72) → M' x j = mem x j) (h72 : mm 3 4 = M' 35 72) (hT : PGT kd' ln' mm sz' tg' M' p v) (hP : PGP mm M' p v) (hpv : ∀ P n j : Int, P ≠ p → pvN M' P n j (M' 35 72).toNat = pvN mem P n j (mem 35 72).toNat) : GRP kd' ln' mm sz' tg' M' := by
  have hs := hI.1.2.2.2.2.1
  have hva := hv.at
  have h18 := hv.row 18 (by decide)
  obtain ⟨h0, h27, h28, h29, h30, h31, h32, h33, h34⟩ := hI.2.2
  have hl28 := h28.len
  have hl29 := h29.len
  have hl31 := h31.len
  have hl32 := h32.len
  have hl34 := h34.len
  have hoc : ∀ a : Int, 101 ≤ a → a < sz → ¬ (290000 < tg a ∧ tg a < 300000) → mm a = mem a := fun a w1 w2 w3 => funext fun j => hc a j (Or.inr (Or.inr ⟨w1, w2, fun u => by rw [u, h18.2.2.2.2] at w3; omega, fun u => by omega, fun u => by rw [u.1, hva.2.2.2.1] at w3; omega⟩))
  have hA : ∀ L : Int, 27 ≤ L → L ≤ 34 → L ≠ 29 → AG sz tg mem mm L := fun L q1 q2 q3 => ⟨funext fun j => hc L j (by omega), fun a w1 w2 w3 w4 => hoc a w1 w2 (by omega)⟩
  have ho : ∀ (L i a : Int), OWN sz tg a (L * 10000 + 100 * (i + 1)) → 27 ≤ L ∧ L ≤ 34 → L ≠ 29 → 0 ≤ i ∧ i ≤ 63 → mm a = mem a := fun L i a q1 q2 q3 q4 => hoc a q1.1 q1.2.1 (by have := q1.2.2; omega)
  refine ⟨?_, ?_, ?_, ?_, ?_, ?_, ?_, ?_, ?_⟩
  · obtain ⟨⟨g1, g2, g3, g4, g5, g6⟩, g7, g8, g9, g10⟩ := h0
    refine ⟨⟨?_, ?_, ?_, ?_, h72, ?_⟩, fun x y q1 q2 q3 q4 => ?_, ?_, ?_, fun j q => ?_⟩
    · rw [hc 3 0 (by omega), he 35 0 (by omega) (by omega) (by omega) (by omega) (by omega)]; exact g1
    · rw [hc 3 1 (by omega), he 35 2 (by omega) (by omega) (by omega) (by omega) (by omega)]; exact g2
    · rw [hc 3 2 (by omega), he 35 46 (by omega) (by omega) (by omega) (by omega) (by omega)]; exact g3
    · rw [hc 3 3 (by omega), he 35 89 (by omega) (by omega) (by omega) (by omega) (by omega)]; exact g4
    · rw [hc 3 5 (by omega), he 35 65 (by omega) (by omega) (by omega) (by omega) (by omega)]; exact g6
    · rw [hc 4 _ (by omega), g7 x y q1 q2 q3 q4]
      unfold leftV leftW
      rw [he 35 65 (by omega) (by omega) (by omega) (by omega) (by omega), lsN_cg (M := mem) (M' := M') _ (fun s _ _ => ⟨he 77 s (by omega) (by omega) (by omega) (by omega) (by omega), he 78 s (by omega) (by omega) (by omega) (by omega) (by omega)⟩), he 79 _ (by omega) (by omega) (by omega) (by omega) (by omega), he 80 _ (by omega) (by omega) (by omega) (by omega) (by omega), he 81 _ (by omega) (by omega) (by omega) (by omega) (by omega)]
    · rw [hc 5 1 (by omega), he 35 11 (by omega) (by omega) (by omega) (by omega) (by omega)]; exact g8
    · rw [show mm 6 = mem 6 from funext fun j => hc 6 j (by omega), g9]; exact (funext fun j => he 39 j (by omega) (by omega) (by omega) (by omega) (by omega)).symm
    · rw [hc 6 j (by omega)]; exact g10 j q
  · have hlx := h27.len
    exact h27.fr hE ht (hA 27 (by decide) (by decide) (by decide)) (by omega) (he 35 6 (by omega) (by omega) (by omega) (by omega) (by omega)) (fun i a q1 q2 q3 q4 => q4.tr (ho 27 i a q3 (by decide) (by decide) (by omega)) (he 36 _ (by omega) (by omega) (by omega) (by omega) (by omega)) (he 37 _ (by omega) (by omega) (by omega) (by omega) (by omega)) (he 38 _ (by omega) (by omega) (by omega) (by omega) (by omega)))
  · have hlx := h28.len
    exact h28.fr hE ht (hA 28 (by decide) (by decide) (by decide)) (by omega) (he 35 16 (by omega) (by omega) (by omega) (by omega) (by omega)) (fun i a q1 q2 q3 q4 => q4.tr hE ht ⟨q1, by omega⟩ (hA 28 (by decide) (by decide) (by decide)).r (ho 28 i a q3 (by decide) (by decide) (by omega)) (Or.inl (funext fun j => (he 41 j (by omega) (by omega) (by omega) (by omega) (by omega)))) (he 42 _ (by omega) (by omega) (by omega) (by omega) (by omega)))
  · refine h29.fr2 hE ht (funext fun j => hc 29 j (by omega)) ?_ (by omega) (he 35 33 (by omega) (by omega) (by omega) (by omega) (by omega)) (fun P q1 q2 q3 q4 => ?_)
    · rcases h29.2.1 with w | w
      · have l1 := h29.1
        rw [w]
        by_cases z : mem 35 33 = 0
        · have := hpg.1; have := hpg.2; omega
        · have l2 := h29.2.2.1
          have l3 := l1.2.2.2.2.2.2.1
          have l4 := l1.2.2.2.2.2.2.2.2.2.2.1
          rw [w] at l4
          omega
      · exact hoc _ w.1 w.2.1 (by have := w.2.2; omega)
    · obtain ⟨a, hax⟩ : ∃ y : Int, y = mem (mem 29 1) P := ⟨_, rfl⟩
      rw [← hax] at q3 q4 ⊢
      have hPg := hI.pgs.2.2 P q1 (by omega)
      by_cases w : P = p
      · have hav : a = v := by rw [hv.1.1, ← w]; exact hax
        rw [w] at q3 q4 hPg ⊢
        rw [hav] at q3 q4 ⊢
        have hrow : ∀ k : Int, 9 ≤ k → k ≤ 16 → mm (mem v k) = mem (mem v k) := fun k u1 u2 => by
          have x := q4.2.1 k u1 (by omega) (by omega)
          refine funext fun j => hc _ j (Or.inr (Or.inr ⟨x.2.2.1, x.2.2.2.1, fun u => ?_, fun u => ?_, fun u => ?_⟩))
          · have y := x.2.2.2.2; rw [u, h18.2.2.2.2] at y; omega
          · have y := x.2.2.2.2; omega
          · have y := x.2.2.2.2; rw [u.1, hva.2.2.2.1] at y; omega
        refine q4.mk3 hE ht (fun j u => hc v j (Or.inr (Or.inr ⟨by omega, by omega, fun z => ?_, fun z => ?_, fun z => u z.2⟩))) (fun k u1 u2 => hrow k u1 (by omega)) (fun k u1 u2 => he k p (by omega) (by omega) (by omega) (by omega) (by omega)) (fun k u1 u2 => he k _ (by omega) (by omega) (by omega) (by omega) (by omega)) (fun k n u1 u2 u3 u4 => he k _ (by omega) (by omega) (by omega) (by omega) (by omega)) (fun n u1 u2 => ?_) hT hP
        · have y := hva.2.2.2.1; rw [z, h18.2.2.2.2] at y; omega
        · have y := hva.2.2.2.1; omega
        · rw [hrow 16 (by decide) (by decide), (q4.2.2.1 n u1 u2).2.2.2.2.2.2.2.2.1, he 35 45 (by omega) (by omega) (by omega) (by omega) (by omega)]
          exact (slB_cg _ (fun s _ _ => ⟨he 63 s (by omega) (by omega) (by omega) (by omega) (by omega), he 64 s (by omega) (by omega) (by omega) (by omega) (by omega)⟩)).symm
      · have hrow : ∀ k : Int, 9 ≤ k → k ≤ 18 → (k = 17 → 101 ≤ mem a 17) → mm (mem a k) = mem (mem a k) := fun k u1 u2 u3 => by
          have x : 101 ≤ mem a k ∧ mem a k < sz ∧ tg (mem a k) = 290000 + 100 * (P + 1) + k := by
            by_cases w : k = 17
            · rcases q4.2.2.2.1 with ⟨x1, x2⟩ | ⟨⟨x1, x2, x3, x4, x5⟩, _⟩
              · have := u3 w; omega
              · rw [w]; exact ⟨x3, x4, x5⟩
            · have x := q4.2.1 k u1 u2 w
              exact ⟨x.2.2.1, x.2.2.2.1, x.2.2.2.2⟩
          refine funext fun j => hc _ j (Or.inr (Or.inr ⟨x.1, x.2.1, fun u => ?_, fun u => ?_, fun u => ?_⟩))
          · have y := x.2.2; rw [u, h18.2.2.2.2] at y; omega
          · have y := x.2.2; omega
          · have y := x.2.2; rw [u.1, hva.2.2.2.1] at y; omega
        have hav : ∀ j : Int, mm a j = mem a j := fun j => by
          refine hc a j (Or.inr (Or.inr ⟨q3.1, q3.2.1, fun u => ?_, fun u => ?_, fun u => ?_⟩))
          · have y := q3.2.2; rw [u, h18.2.2.2.2] at y; omega
          · have y := q3.2.2; omega
          · have y := q3.2.2; rw [u.1, hva.2.2.2.1] at y; omega
        refine q4.mk3 hE ht (fun j _ => hav j) (fun k u1 u2 => hrow k u1 (by omega) (fun w => by omega)) (fun k u1 u2 => he k P (by omega) (by omega) (by omega) (by omega) (by omega)) (fun k u1 u2 => he k _ (by omega) (by omega) (by omega) (by omega) (by omega)) (fun k n u1 u2 u3 u4 => he k _ (by omega) (by omega) (by omega) (by omega) (by omega)) (fun n u1 u2 => ?_) (q4.2.2.2.1.fr hE ht (hav 17) (fun w => hrow 17 (by decide) (by decide) (fun _ => w)) (he 82 P (by omega) (by omega) (by omega) (by omega) (by omega)) (he 47 P (by omega) (by omega) (by omega) (by omega) (by omega)) (fun n _ _ => he 83 _ (by omega) (by omega) (by omega) (by omega) (by omega))) (q4.2.2.2.2.fr (hav 18) (hrow 18 (by decide) (by decide) (fun w => by omega)) (fun n j _ _ _ _ => hpv P n j w))
        rw [hrow 16 (by decide) (by decide) (fun w => by omega), (q4.2.2.1 n u1 u2).2.2.2.2.2.2.2.2.1, he 35 45 (by omega) (by omega) (by omega) (by omega) (by omega)]
        exact (slB_cg _ (fun s _ _ => ⟨he 63 s (by omega) (by omega) (by omega) (by omega) (by omega), he 64 s (by omega) (by omega) (by omega) (by omega) (by omega)⟩)).symm
  · have hlx := h30.len
    exact h30.fr hE ht (hA 30 (by decide) (by decide) (by decide)) (by omega) (he 35 45 (by omega) (by omega) (by omega) (by omega) (by omega)) (fun i a q1 q2 q3 q4 => q4.tr (ho 30 i a q3 (by decide) (by decide) (by omega)) (fun k w1 w2 => (he k i (by omega) (by omega) (by omega) (by omega) (by omega))))
  · have hlx := h31.len
    exact h31.fr hE ht (hA 31 (by decide) (by decide) (by decide)) (by omega) (he 35 79 (by omega) (by omega) (by omega) (by omega) (by omega)) (fun i a q1 q2 q3 q4 => q4.tr hE ht ⟨q1, by omega⟩ (hA 31 (by decide) (by decide) (by decide)).r (ho 31 i a q3 (by decide) (by decide) (by omega)) (he 88 _ (by omega) (by omega) (by omega) (by omega) (by omega)) (he 47 _ (by omega) (by omega) (by omega) (by omega) (by omega)) (fun n _ _ => (he 89 _ (by omega) (by omega) (by omega) (by omega) (by omega))))
  · have hlx := h32.len
    exact h32.fr hE ht (hA 32 (by decide) (by decide) (by decide)) (by omega) (he 35 84 (by omega) (by omega) (by omega) (by omega) (by omega)) (fun i a q1 q2 q3 q4 => q4.tr hE ht ⟨q1, by omega⟩ (hA 32 (by decide) (by decide) (by decide)).r (ho 32 i a q3 (by decide) (by decide) (by omega)) (he 94 _ (by omega) (by omega) (by omega) (by omega) (by omega)) (fun n _ _ => ⟨(he 95 _ (by omega) (by omega) (by omega) (by omega) (by omega)), (he 96 _ (by omega) (by omega) (by omega) (by omega) (by omega))⟩))
  · have hlx := h33.len
    exact h33.fr hE ht (hA 33 (by decide) (by decide) (by decide)) (by omega) (he 35 80 (by omega) (by omega) (by omega) (by omega) (by omega)) (fun i a q1 q2 q3 q4 => q4.tr (ho 33 i a q3 (by decide) (by decide) (by omega)) (fun k w1 w2 => (he k i (by omega) (by omega) (by omega) (by omega) (by omega))))
  · have hlx := h34.len
    exact h34.fr hE ht (hA 34 (by decide) (by decide) (by decide)) (by omega) (he 35 88 (by omega) (by omega) (by omega) (by omega) (by omega)) (fun i a q1 q2 q3 q4 => q4.tr hE ht ⟨q1, by omega⟩ (hA 34 (by decide) (by decide) (by decide)).r (ho 34 i a q3 (by decide) (by decide) (by omega)) (he 97 _ (by omega) (by omega) (by omega) (by omega) (by omega)) (he 98 _ (by omega) (by omega) (by omega) (by omega) (by omega)) (fun n _ _ => (he 99 _ (by omega) (by omega) (by omega) (by omega) (by omega))))
/-- a press slip, told to both -/
theorem GRP.press {n j f : Int} (hI : INV kd ln mem sz tg) (hc : preC mem p n j f) : GRP kd ln (prsX mem p n j f) sz tg (preM mem p n j f) := by
  have hs := hI.1.2.2.2.2.1
  have hv := hI.pag hc.1.1.1 (by have := hc.1.1.2; omega)
  obtain ⟨v, hvx⟩ : ∃ y : Int, y = mem (mem 29 1) p := ⟨_, rfl⟩
  rw [← hvx] at hv
  have hva := hv.at
  have hpg := hv.2.2
  have hR := hI.prs
  have h18 := hv.row 18 (by decide)
  have hX : prsX mem p n j f = set2 (set2 mem 3 4 (mem 35 72 + (if psN mem p n j (mem 35 72).toNat = mem 35 72 then 1 else 0))) (mem v 18) n (nibP (mem (mem v 18) n) j (f + 1)) := by rw [hvx]; rfl
  have hf : ∀ a i : Int, ¬ (a = 3 ∧ i = 4) → a ≠ mem v 18 → prsX mem p n j f a i = mem a i := fun a i w1 w2 => by rw [hX, s2_a w2]; exact if_neg w1
  have h17 : mem v 17 ≠ mem v 18 ∨ mem v 17 < 0 := by
    rcases hv.2.1.2.2.2.1 with ⟨x1, x2⟩ | ⟨x, _⟩
    · right; omega
    · left
      intro u
      have y := x.2.2.2.2
      rw [u, h18.2.2.2.2] at y
      omega
  have hln : 0 ≤ n ∧ n < 40 := by have := hc.2.1.2; omega
  refine GRP.plt hI hv hc.1.1 EXT.rf (fun _ _ => rfl) (fun a i w => hf a i (by omega) (fun u => ?_)) (fun x i w1 w2 w3 w4 w5 => preM_o ⟨w4, w5⟩) ?_ ?_ (fun k u1 u2 => ⟨?_, fun i u3 u4 => ?_⟩) (fun P N J w => ?_)
  · rcases w with w | w | w
    · omega
    · omega
    · exact w.2.2.1 u
  · rw [hX, s2_a (by omega), s2_s]; unfold preM; exact s2_s.symm
  · refine hv.2.1.2.2.2.1.fr EXT.rf (fun _ _ => rfl) (hf v 17 (by omega) (fun u => by have y := hva.2.2.2.1; rw [u, h18.2.2.2.2] at y; omega)) (fun w => funext fun i => hf _ i (by omega) (by omega)) (preM_o (by omega)) (preM_o (by omega)) (fun _ _ _ => preM_o (by omega))
  all_goals have ea : prsX mem p n j f v 18 = mem v 18 := hf v 18 (by omega) (fun u => by have y := hva.2.2.2.1; rw [u, h18.2.2.2.2] at y; omega)
  · rw [ea, hX]
    by_cases w : k = n
    · rw [w, s2_s]
      have := nib_put (w := mem (mem v 18) n) (j := j) (f := f + 1) (hv.wa n hln.1 hln.2) (by have := hc.2.2.1; omega) (by have := hc.2.2.2.1; omega)
      exact this.2
    · rw [s2_k w, s2_a (by omega)]
      exact hv.wa k u1 u2
  · rw [ea, hX, pv_pre hR]
    by_cases w : k = n
    · rw [w, s2_s, nibG_put (hv.wa n hln.1 hln.2) (by have := hc.2.2.1; omega) ⟨u3, u4⟩ (by have := hc.2.2.2.1; omega)]
      by_cases x : i = j
      · rw [if_pos x, if_pos ⟨rfl, rfl, x⟩]
      · rw [if_neg x, if_neg (fun y => x y.2.2)]
        exact (hv.2.1.2.2.2.2 n hln.1 hln.2).2 i u3 u4
    · rw [s2_k w, s2_a (by omega), if_neg (fun y => w y.2.1)]
      exact (hv.2.1.2.2.2.2 k u1 u2).2 i u3 u4
  · rw [pv_pre hR, if_neg (fun y => w y.1)]
end
