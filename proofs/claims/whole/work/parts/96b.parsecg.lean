section PCG
/-! a plan is read by its bytes alone -/
variable {T T' : Int → Int} {L : Int}
theorem skN_cg (h : ∀ i : Int, i < L → T i = T' i) : ∀ (k : Nat) (a : Int), skN T L k a = skN T' L k a := by
  intro k
  induction k with
  | zero => intro a; rfl
  | succ k ih =>
    intro a
    unfold skN
    by_cases q : a < L
    · rw [h a q, ih]
    · rw [if_neg (fun w => q w.1), if_neg (fun w => q w.1)]
theorem skp_cg (h : ∀ i : Int, i < L → T i = T' i) : skp T L = skp T' L := funext fun a => skN_cg h _ a
theorem chr_cg (h : ∀ i : Int, i < L → T i = T' i) : chr T L = chr T' L := funext fun a => by
  unfold chr
  by_cases q : a < L
  · rw [if_pos q, if_pos q, h a q]
  · rw [if_neg q, if_neg q]
theorem numL_cg (h : ∀ i : Int, i < L → T i = T' i) : ∀ (k : Nat) (a v : Int), numL T L k a v = numL T' L k a v := by
  intro k
  induction k with
  | zero =>
    intro a v
    unfold numL
    by_cases q : a < L
    · rw [h a q]
    · rw [if_neg (fun w => q w.1), if_neg (fun w => q w.1)]
  | succ k ih =>
    intro a v
    unfold numL
    by_cases q : a < L
    · rw [h a q, ih]
    · rw [if_neg (fun w => q w.1), if_neg (fun w => q w.1)]
theorem numP_cg (h : ∀ i : Int, i < L → T i = T' i) : numP T L = numP T' L := funext fun a => by
  unfold numP
  rw [chr_cg h, numL_cg h]
theorem clsP_cg (h : ∀ i : Int, i < L → T i = T' i) : clsP T L = clsP T' L := by
  funext c a cs
  unfold clsP
  rw [skp_cg h, chr_cg h]
theorem atomW_cg (h : ∀ i : Int, i < L → T i = T' i) (inn : Int → PR) : atomW T L inn = atomW T' L inn := by
  funext a
  unfold atomW
  rw [skp_cg h, chr_cg h, clsP_cg h, numP_cg h]
theorem opL_cg (h : ∀ i : Int, i < L → T i = T' i) (op : Int → Bool) (sub : Int → PR) : ∀ k : Nat, opL T L op sub k = opL T' L op sub k := by
  intro k
  induction k with
  | zero => rfl
  | succ k ih =>
    funext a c
    unfold opL
    rw [skp_cg h, chr_cg h, ih]
theorem opW_cg (h : ∀ i : Int, i < L → T i = T' i) (op : Int → Bool) (sub : Int → PR) : opW T L op sub = opW T' L op sub := by
  funext a
  unfold opW
  rw [opL_cg h]
theorem sumX_cg (h : ∀ i : Int, i < L → T i = T' i) (inn : Int → PR) : sumX T L inn = sumX T' L inn := by
  unfold sumX termX
  rw [opW_cg h, atomW_cg h, opW_cg h]
theorem sumP_cg (h : ∀ i : Int, i < L → T i = T' i) : ∀ u : Nat, sumP T L u = sumP T' L u := by
  intro u
  induction u with
  | zero => exact sumX_cg h noP
  | succ u ih => show sumX T L (sumP T L u) = sumX T' L (sumP T' L u); rw [ih, sumX_cg h]
theorem cmpP_cg (h : ∀ i : Int, i < L → T i = T' i) (u : Nat) : cmpP T L u = cmpP T' L u := by
  funext a c
  unfold cmpP
  rw [skp_cg h, chr_cg h, sumP_cg h]
theorem unitW_cg (h : ∀ i : Int, i < L → T i = T' i) (u : Nat) (iu ic : Int → PR) : unitW T L u iu ic = unitW T' L u iu ic := by
  funext a
  unfold unitW
  rw [skp_cg h, chr_cg h, clsP_cg h, sumP_cg h, cmpP_cg h]
theorem condW_cg (h : ∀ i : Int, i < L → T i = T' i) (un : Int → PR) : condW T L un = condW T' L un := by
  unfold condW
  rw [opW_cg h isAnd, opW_cg h]
theorem ucP_cg (h : ∀ i : Int, i < L → T i = T' i) : ∀ u : Nat, ucP T L u = ucP T' L u := by
  intro u
  induction u with
  | zero => show (unitW T L 0 noP noP, condW T L (unitW T L 0 noP noP)) = _; rw [unitW_cg h, condW_cg h]; rfl
  | succ u ih => show (unitW T L (u + 1) (ucP T L u).1 (ucP T L u).2, condW T L (unitW T L (u + 1) (ucP T L u).1 (ucP T L u).2)) = _; rw [ih, unitW_cg h, condW_cg h]; rfl
theorem bodC_cg (h : ∀ i : Int, i < L → T i = T' i) : bodC T L = bodC T' L := by
  funext lab a
  unfold bodC finC condP
  rw [skp_cg h, chr_cg h, sumP_cg h, ucP_cg h]
theorem clP_cg (h : ∀ i : Int, i < L → T i = T' i) : clP T L = clP T' L := by
  funext a
  unfold clP
  rw [skp_cg h, chr_cg h, bodC_cg h]
theorem clsL_cg (h : ∀ i : Int, i < L → T i = T' i) : ∀ k : Nat, clsL T L k = clsL T' L k := by
  intro k
  induction k with
  | zero => rfl
  | succ k ih =>
    funext a c
    unfold clsL
    rw [skp_cg h, chr_cg h, clP_cg h, ih]
theorem fauP_cg (h : ∀ i : Int, i < L → T i = T' i) : fauP T L = fauP T' L := by
  unfold fauP
  rw [clsL_cg h]
end PCG
