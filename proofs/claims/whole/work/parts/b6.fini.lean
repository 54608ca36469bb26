section FINI
variable {kd kd1 : Int → Nat} {ln ln1 : Int → Int} {mem mem1 mem2 M' : Int → Int → Int} {sz sz1 : Nat} {tg tg1 : Int → Int}
/-- a call's cells that matter -/
abbrev SCY (a j : Int) : Prop := (a = 0 ∨ (3 ≤ a ∧ a ≤ 6) ∨ a = 8 ∨ a = 10 ∨ (a = 14 ∧ j ≤ 6) ∨ (a = 22 ∧ j ≤ 3) ∨ (27 ≤ a ∧ a ≤ 34) ∨ 101 ≤ a) ∨ SC a j
theorem SK.ext (h : SK kd ln) (hE : EXT kd ln sz kd1 ln1 sz1) (hs : 101 ≤ sz) : SK kd1 ln1 := by
  have hq : ∀ p ∈ smK, p.1 < 101 := by decide +kernel
  refine ⟨(hE.2 35 (by omega)).1.trans h.1, fun p hp => ?_⟩
  have w := hq p hp
  have e := hE.2 p.1 (by omega)
  rw [e.1, e.2]
  exact h.2 p hp
theorem SR.keep (h : SR mem) (he : EQS mem mem1) : SR mem1 := by
  intro p hp
  have hq : ∀ p ∈ smR, SC 35 p.1 := by decide +kernel
  rw [he 35 p.1 (hq p hp)]
  exact h p hp
theorem INV.fx (h : INV kd ln mem sz tg) (hE : EXT kd ln sz kd1 ln1 sz1) (hf : ∀ a j : Int, SCY a j → a < sz → mem1 a j = mem a j) (hEB : EB mem1) : INV kd1 ln1 mem1 sz1 tg := by
  obtain ⟨⟨i1, i2, i3, i4, i5, i6⟩, hM, hG⟩ := h
  have he : EQS mem mem1 := fun a j q => hf a j (Or.inr q) (by have := q.2.1; omega)
  have hz := hE.1
  exact ⟨⟨i1.ext hE i5, i2.ext hE (by omega), i3.keep he, i4.of (fun a k q => hf a k (Or.inl (by omega)) (by omega)), by omega, hEB⟩, hM.eqs he, hG.fr i5 hE (fun _ _ => rfl) (fun a j q => hf a j (Or.inl (by omega)) (by omega)) he⟩
theorem INV.fin (hI : INV kd ln mem sz tg) (hE : EXT kd ln sz kd1 ln1 sz1) (hR1 : HR mem1) (hB1 : EB mem1) (hG : GRP kd1 ln1 mem1 sz1 tg1 M') (h2 : ∀ a j : Int, (a < 35 ∨ 99 < a) → mem2 a j = mem1 a j) (hM2 : EQS M' mem2) (hMI : MI mem2) (hS2 : SR mem2) : INV kd1 ln1 mem2 sz1 tg1 := by
  obtain ⟨⟨i1, i2, i3, i4, i5, i6⟩, -, -⟩ := hI
  have hz := hE.1
  refine ⟨⟨i1.ext hE i5, i2.ext hE (by omega), hS2, hR1.of (fun a k q => h2 a k (by omega)), by omega, ?_⟩, hMI, hG.fr (by omega) EXT.rf (fun _ _ => rfl) (fun a j q => h2 a j (by omega)) hM2⟩
  unfold EB at *
  rw [h2 7 3 (by omega), h2 7 4 (by omega), h2 7 5 (by omega)]
  exact hB1
/-- pages not made have no lines -/
def Z47 (M : Int → Int → Int) : Prop := ∀ p : Int, M 35 33 ≤ p → p < 12 → M 47 p = 0
theorem Z47.eqs (h : Z47 mem) (he : EQS mem mem1) : Z47 mem1 := fun p q1 q2 => by
  rw [he 35 33 (by omega)] at q1
  rw [he 47 p (by omega)]
  exact h p q1 q2
theorem MI.aft (hI : INV kd ln mem sz tg) (h1 : ∀ a j : Int, 35 ≤ a → a ≤ 99 → mem1 a j = mem a j) : EQS mem mem1 ∧ MI mem1 ∧ SR mem1 := by
  have he : EQS mem mem1 := fun a j q => h1 a j q.1 q.2.1
  exact ⟨he, hI.2.1.eqs he, hI.1.2.2.1.keep he⟩
theorem EB.of7 (h : EB mem) (h7 : ∀ j : Int, mem1 7 j = mem 7 j) : EB mem1 := by
  unfold EB at *
  rw [h7 3, h7 4, h7 5]
  exact h
theorem MI.now (h : MI mem) : 0 ≤ mem 35 0 ∧ mem 35 0 ≤ 1000 := h.1
theorem MI.asd (h : MI mem) : -1 ≤ mem 35 2 ∧ mem 35 2 ≤ mem 35 0 := h.2.1
theorem MI.fns (h : MI mem) : FNS mem := h.2.2.1
theorem MI.ptx (h : MI mem) : PTX mem := h.2.2.2.1
theorem MI.pls (h : MI mem) : 0 ≤ mem 35 16 ∧ mem 35 16 ≤ 12 := h.2.2.2.2.1
theorem MI.pgs (h : MI mem) : PGS mem := h.2.2.2.2.2.1
theorem MI.sls (h : MI mem) : SLS mem := h.2.2.2.2.2.2.2.1
theorem MI.chk (h : MI mem) : CHK mem := h.2.2.2.2.2.2.2.2.1
theorem MI.lh (h : MI mem) : LH mem := h.2.2.2.2.2.2.2.2.2.1
theorem MI.dbs (h : MI mem) : DBS mem := h.2.2.2.2.2.2.2.2.2.2.1
theorem MI.prs (h : MI mem) : PRS mem := h.2.2.2.2.2.2.2.2.2.2.2.2.1
theorem MI.ist (h : MI mem) : IST mem := h.2.2.2.2.2.2.2.2.2.2.2.2.2.2.2.1
theorem MI.plb (h : MI mem) : PLB mem := h.2.2.2.2.2.2.2.2.2.2.2.2.2.2.2.2.2.1
theorem MI.cps (h : MI mem) : CPS mem := h.2.2.2.2.2.2.2.2.2.2.2.2.2.2.2.2.2.2.1
theorem MI.ers (h : MI mem) : ERS mem := h.2.2.2.2.2.2.2.2.2.2.2.2.2.2.2.2.2.2.2.1
theorem MI.ots (h : MI mem) : OTS mem := h.2.2.2.2.2.2.2.2.2.2.2.2.2.2.2.2.2.2.2.2.1
theorem MI.tdb (h : MI mem) : ∀ i : Int, 0 ≤ i → i < 320 → 0 ≤ mem 96 i ∧ mem 96 i ≤ 1 := h.2.2.2.2.2.2.2.2.2.2.2.2.2.2.2.2.2.2.2.2.2.1
theorem MI.shs (h : MI mem) : SHS mem := h.2.2.2.2.2.2.2.2.2.2.2.2.2.2.2.2.2.2.2.2.2.2.2.1
theorem MI.drf (h : MI mem) : 0 ≤ mem 35 46 ∧ mem 35 46 ≤ 1000 := h.2.2.2.2.2.2.2.2.2.2.2.2.2.2.2.2.2.2.2.2.2.2.2.2.2.2.1
theorem MI.hrs (h : MI mem) : 1 ≤ mem 35 89 ∧ mem 35 89 ≤ 100 := h.2.2.2.2.2.2.2.2.2.2.2.2.2.2.2.2.2.2.2.2.2.2.2.2.2.2.2
end FINI
