section GETS
/-! what the house's cells are known to be -/
section
variable {kd : Int → Nat} {ln : Int → Int} {mem : Int → Int → Int} {sz : Nat} {tg : Int → Int}
theorem INV.num (h : INV kd ln mem sz tg) : (mem 3 0 = mem 35 0 ∧ mem 3 1 = mem 35 2 ∧ mem 3 2 = mem 35 46 ∧ mem 3 3 = mem 35 89 ∧ mem 3 4 = mem 35 72 ∧ mem 3 5 = mem 35 65) ∧ (0 ≤ mem 35 0 ∧ mem 35 0 ≤ 1000) ∧ (-1 ≤ mem 35 2 ∧ mem 35 2 ≤ mem 35 0) ∧ (0 ≤ mem 35 46 ∧ mem 35 46 ≤ 1000) ∧ (1 ≤ mem 35 89 ∧ mem 35 89 ≤ 100) ∧ 101 ≤ sz := by
  obtain ⟨⟨i1, i2, i3, i4, i5, i6⟩, hM, hG⟩ := h
  exact ⟨hG.1.1, hM.1, hM.2.1, hM.2.2.2.2.2.2.2.2.2.2.2.2.2.2.2.2.2.2.2.2.2.2.2.2.2.2.1, hM.2.2.2.2.2.2.2.2.2.2.2.2.2.2.2.2.2.2.2.2.2.2.2.2.2.2.2, i5⟩
theorem INV.fns (h : INV kd ln mem sz tg) : FNS mem := h.2.1.2.2.1
theorem INV.ptx (h : INV kd ln mem sz tg) : PTX mem := h.2.1.2.2.2.1
theorem INV.pls (h : INV kd ln mem sz tg) : 0 ≤ mem 35 16 ∧ mem 35 16 ≤ 12 := h.2.1.2.2.2.2.1
theorem INV.pgs (h : INV kd ln mem sz tg) : PGS mem := h.2.1.2.2.2.2.2.1
theorem INV.pgf (h : INV kd ln mem sz tg) : ∀ p : Int, 0 ≤ p → p < mem 35 33 → 0 ≤ mem 45 p ∧ mem 45 p < mem 35 6 := h.2.1.2.2.2.2.2.2.1
theorem INV.sls (h : INV kd ln mem sz tg) : SLS mem := h.2.1.2.2.2.2.2.2.2.1
theorem INV.chk (h : INV kd ln mem sz tg) : CHK mem := h.2.1.2.2.2.2.2.2.2.2.1
theorem INV.lh (h : INV kd ln mem sz tg) : LH mem := h.2.1.2.2.2.2.2.2.2.2.2.1
theorem INV.dbs (h : INV kd ln mem sz tg) : DBS mem := h.2.1.2.2.2.2.2.2.2.2.2.2.1
theorem INV.dbh (h : INV kd ln mem sz tg) : ∀ k : Int, 0 ≤ k → k < mem 35 65 → 0 ≤ mem 77 k ∧ mem 77 k ≤ 7 ∧ 0 ≤ mem 78 k ∧ mem 78 k ≤ 7 ∧ mem 77 k ≠ mem 78 k := h.2.1.2.2.2.2.2.2.2.2.2.2.2.1
theorem INV.prs (h : INV kd ln mem sz tg) : PRS mem := h.2.1.2.2.2.2.2.2.2.2.2.2.2.2.1
theorem INV.ist (h : INV kd ln mem sz tg) : IST mem := h.2.1.2.2.2.2.2.2.2.2.2.2.2.2.2.2.2.1
theorem INV.plb (h : INV kd ln mem sz tg) : PLB mem := h.2.1.2.2.2.2.2.2.2.2.2.2.2.2.2.2.2.2.2.1
theorem INV.cps (h : INV kd ln mem sz tg) : CPS mem := h.2.1.2.2.2.2.2.2.2.2.2.2.2.2.2.2.2.2.2.2.1
theorem INV.ers (h : INV kd ln mem sz tg) : ERS mem := h.2.1.2.2.2.2.2.2.2.2.2.2.2.2.2.2.2.2.2.2.2.1
theorem INV.ots (h : INV kd ln mem sz tg) : OTS mem := h.2.1.2.2.2.2.2.2.2.2.2.2.2.2.2.2.2.2.2.2.2.2.1
theorem INV.tdb (h : INV kd ln mem sz tg) : ∀ i : Int, 0 ≤ i → i < 320 → 0 ≤ mem 96 i ∧ mem 96 i ≤ 1 := h.2.1.2.2.2.2.2.2.2.2.2.2.2.2.2.2.2.2.2.2.2.2.2.1
theorem INV.shs (h : INV kd ln mem sz tg) : SHS mem := h.2.1.2.2.2.2.2.2.2.2.2.2.2.2.2.2.2.2.2.2.2.2.2.2.2.1
theorem LSG.ls {L N : Int} {c : Nat} {O : Int → Int → Prop} (h : LSG kd ln mem sz tg L N c O) : mem L 2 = N ∧ kd L = 1 ∧ kd (mem L 1) = 23 ∧ N ≤ ln (mem L 1) ∧ mem L 2 ≤ ln (mem L 1) := by
  obtain ⟨⟨l1, l2, l3, l4, l5, l6, l7, l8, l9⟩, h2, h3, h4⟩ := h
  omega
theorem INV.g27 (h : INV kd ln mem sz tg) : LSG kd ln mem sz tg 27 (mem 35 6) 2 (O27 mem mem) := h.2.2.2.1
theorem INV.g28 (h : INV kd ln mem sz tg) : LSG kd ln mem sz tg 28 (mem 35 16) 12 (O28 kd ln mem sz tg mem) := h.2.2.2.2.1
theorem INV.g29 (h : INV kd ln mem sz tg) : LSG kd ln mem sz tg 29 (mem 35 33) 5 (O29 kd ln mem sz tg mem) := h.2.2.2.2.2.1
theorem INV.g30 (h : INV kd ln mem sz tg) : LSG kd ln mem sz tg 30 (mem 35 45) 10 (O30 mem mem) := h.2.2.2.2.2.2.1
theorem INV.g31 (h : INV kd ln mem sz tg) : LSG kd ln mem sz tg 31 (mem 35 79) 11 (O31 kd ln mem sz tg mem) := h.2.2.2.2.2.2.2.1
theorem INV.g32 (h : INV kd ln mem sz tg) : LSG kd ln mem sz tg 32 (mem 35 84) 11 (O32 kd ln mem sz tg mem) := h.2.2.2.2.2.2.2.2.1
theorem INV.g33 (h : INV kd ln mem sz tg) : LSG kd ln mem sz tg 33 (mem 35 80) 3 (O33 mem mem) := h.2.2.2.2.2.2.2.2.2.1
theorem INV.g34 (h : INV kd ln mem sz tg) : LSG kd ln mem sz tg 34 (mem 35 88) 9 (O34 kd ln mem sz tg mem) := h.2.2.2.2.2.2.2.2.2.2
/-- a function's object -/
def CURV (kd : Int → Nat) (mem : Int → Int → Int) (sz : Nat) (f v : Int) : Prop := kd v = 2 ∧ 101 ≤ v ∧ v < sz ∧ (mem v 0 = mem 36 f ∧ mem v 1 = mem 37 f ∧ mem v 2 = mem 38 f) ∧ FN mem f
theorem INV.cur (h : INV kd ln mem sz tg) {f : Int} (h0 : 0 ≤ f) (h1 : f < mem 35 6) : CURV kd mem sz f (mem (mem 27 1) f) := by
  obtain ⟨g1, g2, g3⟩ := h.g27.2.2.2 f h0 h1
  exact ⟨g1, g2.1, g2.2.1, g3, h.fns.2.2 f h0 (by omega)⟩
/-- a plan's text -/
def PLNV (kd : Int → Nat) (ln : Int → Int) (mem : Int → Int → Int) (sz : Nat) (tg : Int → Int) (t v : Int) : Prop := kd v = 12 ∧ OWN sz tg v (28 * 10000 + 100 * (t + 1)) ∧ O28 kd ln mem sz tg mem t v ∧ v = mem (mem 28 1) t
theorem INV.pln (h : INV kd ln mem sz tg) {t : Int} (h0 : 0 ≤ t) (h1 : t < mem 35 16) : PLNV kd ln mem sz tg t (mem (mem 28 1) t) := ⟨(h.g28.2.2.2 t h0 h1).1, (h.g28.2.2.2 t h0 h1).2.1, (h.g28.2.2.2 t h0 h1).2.2, rfl⟩
/-- the plans' texts, for the model -/
def tTT (mem : Int → Int → Int) : Int → Int → Int := fun t => mem (mem (mem (mem 28 1) t) 0)
def tLL (mem : Int → Int → Int) : Int → Int := fun t => mem (mem (mem 28 1) t) 1
theorem INV.plsm (h : INV kd ln mem sz tg) : PLS mem (tTT mem) (tLL mem) := by
  refine ⟨h.pls.1, h.pls.2, fun t q1 q2 => ?_⟩
  obtain ⟨-, -, ⟨g1, g2, g3, g4, g5, g6, g7, g8, g9, g10⟩, -⟩ := h.pln q1 (by omega)
  exact ⟨⟨g3, by show mem (mem (mem 28 1) t) 1 ≤ 160; omega⟩, g7, g8, g9, g10⟩
/-- a page's object -/
def PAGV (kd : Int → Nat) (ln : Int → Int) (mem : Int → Int → Int) (sz : Nat) (tg : Int → Int) (p v : Int) : Prop := (v = mem (mem 29 1) p ∧ kd v = 5 ∧ OWN sz tg v (29 * 10000 + 100 * (p + 1)) ∧ 0 ≤ p ∧ p < 12) ∧ O29 kd ln mem sz tg mem p v ∧ PG mem p
theorem INV.pag (h : INV kd ln mem sz tg) {p : Int} (h0 : 0 ≤ p) (h1 : p < mem 35 33) : PAGV kd ln mem sz tg p (mem (mem 29 1) p) := by
  have g := h.g29.2.2.2 p h0 h1
  have w := h.pgs
  exact ⟨⟨rfl, g.1, g.2.1, h0, by omega⟩, g.2.2, w.2.2 p h0 (by omega)⟩
theorem PAGV.nm {p v : Int} (h : PAGV kd ln mem sz tg p v) : PGN mem mem p v := h.2.1.1
theorem PAGV.pb {p v : Int} (h : PAGV kd ln mem sz tg p v) : PB mem v := by
  obtain ⟨g0, g1, g2, g3, g4, g5, g6, g7, g8⟩ := h.nm
  have hp := h.2.2
  show 2 ≤ mem v 2 ∧ mem v 2 ≤ 40 ∧ 1 ≤ mem v 1 ∧ mem v 1 ≤ 9999 ∧ 1 ≤ mem v 3 ∧ mem v 3 ≤ 50 ∧ 1 ≤ mem v 4 ∧ mem v 4 ≤ 4 ∧ 0 ≤ mem v 5 ∧ mem v 5 ≤ 5 ∧ 0 ≤ mem v 6 ∧ mem v 5 + mem v 6 ≤ 6 ∧ mem v 4 + 2 ≤ mem v 7 ∧ mem v 7 ≤ 40 ∧ 0 ≤ mem v 8 ∧ mem v 8 ≤ 2
  rw [g1, g2, g3, g4, g5, g6, g7, g8]
  have hm : mem 47 p * 1 ≤ mem 47 p * mem 48 p := Int.mul_le_mul_of_nonneg_left (by omega) (by omega)
  have hm2 : (mem 47 p - 1) * mem 48 p = mem 47 p * mem 48 p - mem 48 p := by rw [Int.sub_mul, Int.one_mul]
  have h0 : 0 ≤ (mem 47 p - 1) * mem 48 p := Int.mul_nonneg (by omega) (by omega)
  omega
theorem PAGV.row {p v : Int} (h : PAGV kd ln mem sz tg p v) (k : Int) (h1 : 9 ≤ k ∧ k ≤ 18 ∧ k ≠ 17) : kd (mem v k) = kRow k ∧ ln (mem v k) = 40 ∧ 101 ≤ mem v k ∧ mem v k < sz ∧ tg (mem v k) = 290000 + 100 * (p + 1) + k := h.2.1.2.1 k h1.1 h1.2.1 h1.2.2
theorem PAGV.at {p v : Int} (h : PAGV kd ln mem sz tg p v) : kd v = 5 ∧ 101 ≤ v ∧ v < sz ∧ tg v = 290000 + 100 * (p + 1) ∧ 0 ≤ p ∧ p < 12 := ⟨h.1.2.1, h.1.2.2.1.1, h.1.2.2.1.2.1, h.1.2.2.1.2.2, h.1.2.2.2⟩
/-- a slip's object -/
theorem INV.slp (h : INV kd ln mem sz tg) {s : Int} (h0 : 0 ≤ s) (h1 : s < mem 35 45) : (kd (mem (mem 30 1) s) = 10 ∧ OWN sz tg (mem (mem 30 1) s) (30 * 10000 + 100 * (s + 1))) ∧ O30 mem mem s (mem (mem 30 1) s) ∧ SL mem s := by
  have g := h.g30.2.2.2 s h0 h1
  exact ⟨⟨g.1, g.2.1⟩, g.2.2, h.sls.2.2 s h0 (by omega)⟩
/-- a sheet's object -/
def SHTV (kd : Int → Nat) (ln : Int → Int) (mem : Int → Int → Int) (sz : Nat) (tg : Int → Int) (s v : Int) : Prop := kd v = 9 ∧ OWN sz tg v (34 * 10000 + 100 * (s + 1)) ∧ O34 kd ln mem sz tg mem s v ∧ v = mem (mem 34 1) s
theorem INV.sht (h : INV kd ln mem sz tg) {s : Int} (h0 : 0 ≤ s) (h1 : s < mem 35 88) : SHTV kd ln mem sz tg s (mem (mem 34 1) s) := ⟨(h.g34.2.2.2 s h0 h1).1, (h.g34.2.2.2 s h0 h1).2.1, (h.g34.2.2.2 s h0 h1).2.2, rfl⟩
end
end GETS
