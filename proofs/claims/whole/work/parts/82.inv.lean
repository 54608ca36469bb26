section INVR
/-! the house and the model side by side: the house's cells, told by the model's -/
abbrev OWN (sz : Nat) (tg : Int → Int) (a t : Int) : Prop := 101 ≤ a ∧ a < sz ∧ tg a = t
abbrev ROW (kd : Int → Nat) (ln : Int → Int) (sz : Nat) (tg : Int → Int) (a t : Int) (c : Nat) (n : Int) : Prop := kd a = c ∧ ln a = n ∧ 101 ≤ a ∧ a < sz ∧ tg a = t
/-- a list of the house's: its row, its objects, each with what it holds -/
def LSG (kd : Int → Nat) (ln : Int → Int) (mem : Int → Int → Int) (sz : Nat) (tg : Int → Int) (L N : Int) (c : Nat) (O : Int → Int → Prop) : Prop :=
  LSO kd ln mem sz L ∧ (mem L 1 = 1 ∨ OWN sz tg (mem L 1) (L * 10000)) ∧ mem L 2 = N ∧ ∀ i : Int, 0 ≤ i → i < N → kd (mem (mem L 1) i) = c ∧ OWN sz tg (mem (mem L 1) i) (L * 10000 + 100 * (i + 1)) ∧ O i (mem (mem L 1) i)
/-- a list's cells stay -/
def AG (sz : Nat) (tg : Int → Int) (mem mm : Int → Int → Int) (L : Int) : Prop := mm L = mem L ∧ ∀ a : Int, 101 ≤ a → a < sz → L * 10000 ≤ tg a → tg a < L * 10000 + 10000 → mm a = mem a
abbrev TGX (sz : Nat) (tg tg' : Int → Int) : Prop := ∀ a : Int, a < sz → tg' a = tg a
theorem LSG.len {kd : Int → Nat} {ln : Int → Int} {mem : Int → Int → Int} {sz : Nat} {tg : Int → Int} {L N : Int} {c : Nat} {O : Int → Int → Prop} (h : LSG kd ln mem sz tg L N c O) : 0 ≤ N ∧ N ≤ 63 := by
  obtain ⟨⟨l1, l2, l3, l4, l5, l6, l7, l8, l9⟩, h2, h3, h4⟩ := h
  omega
theorem LSG.imp {kd : Int → Nat} {ln : Int → Int} {mem : Int → Int → Int} {sz : Nat} {tg : Int → Int} {L N N' : Int} {c : Nat} {O O' : Int → Int → Prop} (h : LSG kd ln mem sz tg L N c O) (hN : N' = N) (hO : ∀ i a : Int, 0 ≤ i → i < N → OWN sz tg a (L * 10000 + 100 * (i + 1)) → O i a → O' i a) : LSG kd ln mem sz tg L N' c O' := by
  subst hN
  exact ⟨h.1, h.2.1, h.2.2.1, fun i q1 q2 => ⟨(h.2.2.2 i q1 q2).1, (h.2.2.2 i q1 q2).2.1, hO i _ q1 q2 (h.2.2.2 i q1 q2).2.1 (h.2.2.2 i q1 q2).2.2⟩⟩
theorem OWN.fr {kd kd' : Int → Nat} {ln ln' : Int → Int} {sz sz' : Nat} {tg tg' : Int → Int} {a t : Int} (h : OWN sz tg a t) (hE : EXT kd ln sz kd' ln' sz') (ht : TGX sz tg tg') : OWN sz' tg' a t := ⟨h.1, by have := hE.1; omega, (ht a h.2.1).trans h.2.2⟩
theorem ROW.fr {kd kd' : Int → Nat} {ln ln' : Int → Int} {sz sz' : Nat} {tg tg' : Int → Int} {a t n : Int} {c : Nat} (h : ROW kd ln sz tg a t c n) (hE : EXT kd ln sz kd' ln' sz') (ht : TGX sz tg tg') : ROW kd' ln' sz' tg' a t c n := by
  obtain ⟨h1, h2, h3, h4, h5⟩ := h
  have e := hE.2 a h4
  exact ⟨e.1.trans h1, e.2.trans h2, h3, by have := hE.1; omega, (ht a h4).trans h5⟩
theorem AG.own {sz : Nat} {tg : Int → Int} {mem mm : Int → Int → Int} {L a t : Int} (h : AG sz tg mem mm L) (ho : OWN sz tg a t) (ht : L * 10000 ≤ t ∧ t < L * 10000 + 10000) : mm a = mem a := h.2 a ho.1 ho.2.1 (by have := ho.2.2; omega) (by have := ho.2.2; omega)
theorem AG.row {kd : Int → Nat} {ln : Int → Int} {sz : Nat} {tg : Int → Int} {mem mm : Int → Int → Int} {L a t n : Int} {c : Nat} (h : AG sz tg mem mm L) (ho : ROW kd ln sz tg a t c n) (ht : L * 10000 ≤ t ∧ t < L * 10000 + 10000) : mm a = mem a := h.2 a ho.2.2.1 ho.2.2.2.1 (by have := ho.2.2.2.2; omega) (by have := ho.2.2.2.2; omega)
/-- .. of its objects and their rows alone -/
def AGR (sz : Nat) (tg : Int → Int) (mem mm : Int → Int → Int) (L : Int) : Prop := ∀ a : Int, 101 ≤ a → a < sz → L * 10000 < tg a → tg a < L * 10000 + 10000 → mm a = mem a
theorem AG.r {sz : Nat} {tg : Int → Int} {mem mm : Int → Int → Int} {L : Int} (h : AG sz tg mem mm L) : AGR sz tg mem mm L := fun a q1 q2 q3 q4 => h.2 a q1 q2 (by omega) q4
theorem AGR.own {sz : Nat} {tg : Int → Int} {mem mm : Int → Int → Int} {L a t : Int} (h : AGR sz tg mem mm L) (ho : OWN sz tg a t) (ht : L * 10000 < t ∧ t < L * 10000 + 10000) : mm a = mem a := h a ho.1 ho.2.1 (by have := ho.2.2; omega) (by have := ho.2.2; omega)
theorem AGR.row {kd : Int → Nat} {ln : Int → Int} {sz : Nat} {tg : Int → Int} {mem mm : Int → Int → Int} {L a t n : Int} {c : Nat} (h : AGR sz tg mem mm L) (ho : ROW kd ln sz tg a t c n) (ht : L * 10000 < t ∧ t < L * 10000 + 10000) : mm a = mem a := h a ho.2.2.1 ho.2.2.2.1 (by have := ho.2.2.2.2; omega) (by have := ho.2.2.2.2; omega)
theorem LSG.fr {kd kd' : Int → Nat} {ln ln' : Int → Int} {mem mm : Int → Int → Int} {sz sz' : Nat} {tg tg' : Int → Int} {L N N' : Int} {c : Nat} {O O' : Int → Int → Prop} (h : LSG kd ln mem sz tg L N c O) (hE : EXT kd ln sz kd' ln' sz') (ht : TGX sz tg tg') (hA : AG sz tg mem mm L) (hL : 3 ≤ L ∧ L < sz) (hN : N' = N) (hO : ∀ i a : Int, 0 ≤ i → i < N → OWN sz tg a (L * 10000 + 100 * (i + 1)) → O i a → O' i a) : LSG kd' ln' mm sz' tg' L N' c O' := by
  subst hN
  obtain ⟨⟨l1, l2, l3, l4, l5, l6, l7, l8, l9, l10, l11, l12⟩, h2, h3, h4⟩ := h
  have e0 := hE.2 L (by omega)
  have e1 := hE.2 (mem L 1) l5
  have ez := hE.1
  refine ⟨?_, ?_, ?_, ?_⟩
  · unfold LSO
    rw [hA.1, e0.1, e1.1, e1.2]
    exact ⟨l1, l2, by omega, l4, by omega, l6, l7, l8, l9, l10, l11, by omega⟩
  · rw [hA.1]
    exact h2.imp id (fun q => q.fr hE ht)
  · rw [hA.1]; exact h3
  · intro i q1 q2
    obtain ⟨g1, g2, g3⟩ := h4 i q1 q2
    have er : mm (mem L 1) = mem (mem L 1) := by
      rcases h2 with q | q
      · have w : ln (mem L 1) = 0 := by omega
        omega
      · exact hA.own q (by omega)
    rw [hA.1, er]
    exact ⟨(hE.2 _ g2.2.1).1.trans g1, g2.fr hE ht, hO i _ q1 q2 g2 g3⟩
/-- one object more -/
theorem LSG.add {kd kd1 kd2 : Int → Nat} {ln ln1 ln2 : Int → Int} {mem mem1 mem2 : Int → Int → Int} {sz sz1 sz2 : Nat} {tg tg2 : Int → Int} {L N N' e : Int} {c : Nat} {O O2 : Int → Int → Prop} (h : LSG kd ln mem sz tg L N c O) (hN : N ≤ 61) (hN' : N' = N + 1) (hE1 : EXT kd ln sz kd1 ln1 sz1) (hf1 : ∀ b j : Int, b < sz → mem1 b j = mem b j) (hA : ADDP ln1 mem1 sz1 L e kd2 ln2 mem2) (hz2 : mem2 L 1 < sz2) (hE2 : EXT kd1 ln1 sz1 kd2 ln2 sz2) (he : sz ≤ e ∧ e < sz1) (hke : kd1 e = c) (hs : 101 ≤ sz) (htg : TGX sz tg tg2) (ht1 : tg2 sz1 = L * 10000) (hte : tg2 e = L * 10000 + 100 * (N + 1)) (hL : 27 ≤ L ∧ L ≤ 34) (hO : ∀ i a : Int, 0 ≤ i → i < N → OWN sz tg a (L * 10000 + 100 * (i + 1)) → O i a → O2 i a) (hOe : O2 N e) : LSG kd2 ln2 mem2 sz2 tg2 L N' c O2 := by
  subst hN'
  obtain ⟨⟨l1, l2, l3, l4, l5, l6, l7, l8, l9, l10, l11, l12⟩, h2, h3, h4⟩ := h
  have eL : mem1 L = mem L := funext fun j => hf1 L j (by omega)
  have er : ∀ j : Int, mem1 (mem L 1) j = mem (mem L 1) j := fun j => hf1 _ j l5
  obtain ⟨a1, a2, a3, a4, a5, a6, a7, a8, a9⟩ := hA
  rw [eL] at a2 a4 a6 a7 a8
  have z1 := hE1.1
  have z2 := hE2.1
  have eT := hE1.tr hE2
  have hrow : OWN sz2 tg2 (mem2 L 1) (L * 10000) := by
    rcases a4 with q | q
    · rcases h2 with w | w
      · omega
      · rw [q]; exact w.fr eT htg
    · exact ⟨by omega, hz2, by rw [q]; exact ht1⟩
  refine ⟨?_, Or.inr hrow, by rw [a6, h3], ?_⟩
  · unfold LSO
    rw [(eT.2 L (by omega)).1]
    exact ⟨l1, l2, by omega, a1, hz2, by omega, by omega, by omega, a3, by omega, Or.inr ⟨a5, by omega⟩, by omega⟩
  · intro i q1 q2
    by_cases w : i < N
    · obtain ⟨g1, g2, g3⟩ := h4 i q1 w
      rw [a8 i q1 (by omega), er]
      exact ⟨(eT.2 _ g2.2.1).1.trans g1, g2.fr eT htg, hO i _ q1 w g2 g3⟩
    · obtain rfl : i = N := by omega
      rw [← h3, a7, h3]
      exact ⟨(hE2.2 e he.2).1.trans hke, ⟨by omega, by omega, hte⟩, hOe⟩
/-- the other lists' cells stay when one grows -/
theorem ADDP.ag {kd2 : Int → Nat} {ln1 ln2 : Int → Int} {mem mem1 mem2 : Int → Int → Int} {sz sz1 : Nat} {tg : Int → Int} {L L' e : Int} (hA : ADDP ln1 mem1 sz1 L e kd2 ln2 mem2) (hrow : mem L 1 = 1 ∨ OWN sz tg (mem L 1) (L * 10000)) (hf1 : ∀ b j : Int, b < sz → mem1 b j = mem b j) (hz : sz ≤ sz1) (hs : 101 ≤ sz) (hL : 27 ≤ L ∧ L ≤ 34 ∧ 3 ≤ L' ∧ L' ≤ 34 ∧ L' ≠ L) : AG sz tg mem mem2 L' := by
  obtain ⟨-, -, -, a4, -, -, -, -, a9⟩ := hA
  have e1 : mem1 L 1 = mem L 1 := hf1 L 1 (by omega)
  refine ⟨funext fun j => ?_, fun a q1 q2 q3 q4 => funext fun j => ?_⟩
  · rw [a9 L' j (by omega) (by omega)]; exact hf1 L' j (by omega)
  · rw [a9 a j (by omega) (fun w => by rcases a4 with v | v <;> rcases hrow with u | u <;> first | omega | (have := u.2.2; rw [← e1, ← v, ← w] at this; omega))]
    exact hf1 a j q2
end INVR
