section CONG
/-! what a model's number is made of: the model's cells, but those that a call writes anew -/
abbrev SC (a j : Int) : Prop := 35 ≤ a ∧ a ≤ 99 ∧ a ≠ 40 ∧ a ≠ 43 ∧ a ≠ 44 ∧ ¬ (59 ≤ a ∧ a ≤ 62) ∧ ¬ (69 ≤ a ∧ a ≤ 76) ∧ ¬ (a = 35 ∧ (j = 1 ∨ (12 ≤ j ∧ j ≤ 15) ∨ j = 19 ∨ (55 ≤ j ∧ j ≤ 59)))
def ovr (X mem : Int → Int → Int) : Int → Int → Int := fun a j => if SC a j then mem a j else X a j
abbrev EQS (mem mm : Int → Int → Int) : Prop := ∀ a j : Int, SC a j → mm a j = mem a j
theorem ovr_ex {mem mm : Int → Int → Int} (h : EQS mem mm) : mm = ovr mm mem := by
  funext a j
  unfold ovr
  by_cases q : SC a j
  · rw [if_pos q]; exact h a j q
  · rw [if_neg q]
section CG
variable (X mem : Int → Int → Int)
theorem cg_exactA (f x p : Int) : exactA (ovr X mem) f x p = exactA mem f x p := rfl
theorem cg_nearestA (f x p : Int) : nearestA (ovr X mem) f x p = nearestA mem f x p := rfl
theorem cg_wholeB (f x p : Int) : wholeB (ovr X mem) f x p = wholeB mem f x p := rfl
theorem cg_pagedA (p w : Int) : pagedA (ovr X mem) p w = pagedA mem p w := rfl
theorem cg_linedA (p n w : Int) : linedA (ovr X mem) p n w = linedA mem p n w := rfl
theorem cg_numT (p n : Int) : numT (ovr X mem) p n = numT mem p n := rfl
theorem cg_numQ (p n q : Int) : numQ (ovr X mem) p n q = numQ mem p n q := by delta numQ adS adN; rfl
theorem cg_colQ (p n c q : Int) : colQ (ovr X mem) p n c q = colQ mem p n c q := by delta colQ adS adN; rfl
theorem cg_adS (p q : Int) : adS (ovr X mem) p q = adS mem p q := by delta adS adN; rfl
theorem cg_keptV (p v : Int) : keptV (ovr X mem) p v = keptV mem p v := rfl
theorem cg_rightV (p n : Int) : rightV (ovr X mem) p n = rightV mem p n := rfl
theorem cg_wrongN (p q : Int) (k : Nat) : wrongN (ovr X mem) p q k = wrongN mem p q k := by delta wrongN wrongN._f numQ adS adN; rfl
theorem cg_nearP (p : Int) : nearP (ovr X mem) p = nearP mem p := rfl
theorem cg_boundV (p n : Int) : boundV (ovr X mem) p n = boundV mem p n := rfl
theorem cg_safeA (p n : Int) : safeA (ovr X mem) p n = safeA mem p n := rfl
theorem cg_hldA (p : Int) (ad : Int → Int) (n : Int) : hldA (ovr X mem) p ad n = hldA mem p ad n := rfl
theorem cg_flN (p : Int) (ad : Int → Int) (k : Nat) : flN (ovr X mem) p ad k = flN mem p ad k := by delta flN; rfl
theorem cg_unN (p q : Int) (k : Nat) : unN (ovr X mem) p q k = unN mem p q k := by delta unN unN._f flN flN._f; rfl
theorem cg_heN (p q : Int) (k : Nat) : heN (ovr X mem) p q k = heN mem p q k := by delta heN heN._f hxN hxN._f sxN sxN._f numQ adS adN; rfl
theorem cg_spN (p : Int) (ad : Int → Int) (k : Nat) : spN (ovr X mem) p ad k = spN mem p ad k := by delta spN; rfl
theorem cg_leastS (p b q : Int) : leastS (ovr X mem) p b q = leastS mem p b q := by delta leastS restF numQ adS adN; rfl
theorem cg_rateV (h : Int) : rateV (ovr X mem) h = rateV mem h := by delta rateV alA alA._f baA baA._f alN alN._f baN baN._f slB; rfl
theorem cg_shutV (h p n : Int) : shutV (ovr X mem) h p n = shutV mem h p n := rfl
theorem cg_leftV (x y : Int) : leftV (ovr X mem) x y = leftV mem x y := by delta leftV lsN; rfl
theorem cg_prtV (p n : Int) : prtV (ovr X mem) p n = prtV mem p n := by delta prtV prN; rfl
theorem cg_pfK (p : Int) (k : Nat) : pfK (ovr X mem) p k = pfK mem p k := by delta pfK pfK._f prtV prN numQ adS adN; rfl
theorem cg_pfF (p : Int) (k : Nat) : pfF (ovr X mem) p k = pfF mem p k := by delta pfF pfF._f prtV prN numQ adS adN; rfl
theorem cg_erN (c p : Int) (k : Nat) : erN (ovr X mem) c p k = erN mem c p k := by delta erN; rfl
theorem cg_cq0 (t p : Int) (k : Nat) : cq0 (ovr X mem) t p k = cq0 mem t p k := by delta cq0; rfl
theorem cg_cq1 (t p : Int) (k : Nat) : cq1 (ovr X mem) t p k = cq1 mem t p k := by delta cq1 cq1._f prtV prN; rfl
theorem cg_cq2 (t p : Int) (k : Nat) : cq2 (ovr X mem) t p k = cq2 mem t p k := by delta cq2 cq2._f prtV prN; rfl
theorem cg_cq3 (t p : Int) (k : Nat) : cq3 (ovr X mem) t p k = cq3 mem t p k := by delta cq3 cq3._f prtV prN; rfl
theorem cg_cq4 (t p : Int) (k : Nat) : cq4 (ovr X mem) t p k = cq4 mem t p k := by delta cq4; rfl
theorem cg_rtN (f first st o p c m h : Int) (k : Nat) : rtN (ovr X mem) f first st o p c m h k = rtN mem f first st o p c m h k := by delta rtN; rfl
theorem cg_costV (many o e m : Int) : costV (ovr X mem) many o e m = costV mem many o e m := rfl
theorem cg_bsS (f first many st p h o e m : Int) (S : BS) : bsS (ovr X mem) f first many st p h o e m S = bsS mem f first many st p h o e m S := by
  unfold bsS
  rw [cg_rtN, cg_costV]
theorem cg_bsM (f first many st p h o e : Int) (k : Nat) (S : BS) : bsM (ovr X mem) f first many st p h o e k S = bsM mem f first many st p h o e k S := by
  induction k with
  | zero => rfl
  | succ k ih => unfold bsM; rw [cg_bsS, ih]
theorem cg_bsC (f first many st p h o : Int) (k : Nat) (S : BS) : bsC (ovr X mem) f first many st p h o k S = bsC mem f first many st p h o k S := by
  induction k with
  | zero => rfl
  | succ k ih => unfold bsC; rw [cg_bsM, ih]
theorem cg_bsO (f first many st p h : Int) (k : Nat) (S : BS) : bsO (ovr X mem) f first many st p h k S = bsO mem f first many st p h k S := by
  induction k with
  | zero => rfl
  | succ k ih => unfold bsO; rw [cg_bsC, ih]
theorem cg_bestV (f first many st p h w : Int) : bestV (ovr X mem) f first many st p h w = bestV mem f first many st p h w := by
  unfold bestV
  rw [cg_bsO]
theorem cg_cntV (w : Int) : cntV (ovr X mem) w = cntV mem w := by delta cntV meN seN; rfl
theorem cg_takV (p n s j : Int) : takV (ovr X mem) p n s j = takV mem p n s j := by delta takV numQ adS adN; rfl
theorem cg_psN (p n j : Int) (k : Nat) : psN (ovr X mem) p n j k = psN mem p n j k := by delta psN; rfl
theorem cg_slB (p n : Int) (k : Nat) : slB (ovr X mem) p n k = slB mem p n k := by delta slB; rfl
theorem cg_meN (k : Nat) : meN (ovr X mem) k = meN mem k := by delta meN; rfl
theorem cg_seN (k : Nat) : seN (ovr X mem) k = seN mem k := by delta seN; rfl
theorem cg_knw : knw (ovr X mem) = knw mem := rfl
theorem cg_prN (p n : Int) (k : Nat) : prN (ovr X mem) p n k = prN mem p n k := by delta prN; rfl
end CG
end CONG
