section ASKS
/-- the law's invariant: the house and the model side by side -/
def LI (kd : Int → Nat) (ln : Int → Int) (mem : Int → Int → Int) (sz : Nat) : Prop := ∃ tg : Int → Int, INV kd ln mem sz tg ∧ Z47 mem
section
variable {kd : Int → Nat} {ln : Int → Int} {mem m : Int → Int → Int} {sz : Nat} {tg : Int → Int}
theorem SCF.qs (h : SCF mem m) : EQS mem m := fun a j q => h a j (by omega) (by omega) (by omega)
theorem SCE.qs (h : SCE mem m) : EQS mem m := fun a j q => h a j (by omega) (by omega) (by omega) (by omega) (by omega)
theorem SCB.qs (h : SCB mem m) : EQS mem m := fun a j q => h a j (by omega) (by omega)
theorem S7.qs (h : ∀ b j : Int, b ≠ 7 → m b j = mem b j) : EQS mem m := fun a j q => h a j (by omega)
theorem FR.qs (h : FR mem m) : EQS mem m := fun a j q => h a j (by omega) (by omega) (by omega) (by omega)
theorem FT.qs (h : FT mem m) : EQS mem m := fun a j q => h a j (by omega) (by omega) (by omega) (by omega) (by omega)
theorem FL.qs (h : FL mem m) : EQS mem m := fun a j q => h a j (by omega) (by omega) (by omega)
theorem FPS.qs (h : ∀ a j : Int, ¬ (a = 35 ∧ 12 ≤ j ∧ j ≤ 15) → a ≠ 40 → m a j = mem a j) : EQS mem m := fun a j q => h a j (by omega) (by omega)
theorem F59.qs (h : ∀ a j : Int, (a < 59 ∨ 62 < a) → m a j = mem a j) : EQS mem m := fun a j q => h a j (by omega)
theorem WOF.qs (h : WOF mem m) : EQS mem m := fun a j q => h a j (by omega) (by omega) (by omega)
theorem INV.eb (h : INV kd ln mem sz tg) : EB mem := h.1.2.2.2.2.2
theorem INV.xscf (h : INV kd ln mem sz tg) (f : SCF mem m) : INV kd ln m sz tg := h.fx EXT.rf (fun a j q _ => f a j (by omega) (by omega) (by omega)) (h.eb.of7 (fun j => f 7 j (by decide) (by decide) (by decide)))
theorem INV.xsce (h : INV kd ln mem sz tg) (f : SCE mem m) : INV kd ln m sz tg := h.fx EXT.rf (fun a j q _ => f a j (by omega) (by omega) (by omega) (by omega) (by omega)) (h.eb.of7 (fun j => f 7 j (by omega) (by omega) (by omega) (by omega) (by omega)))
theorem INV.xscb (h : INV kd ln mem sz tg) (f : SCB mem m) : INV kd ln m sz tg := h.fx EXT.rf (fun a j q _ => f a j (by omega) (by omega)) (h.eb.of7 (fun j => f 7 j (by omega) (by omega)))
theorem INV.xs7 (h : INV kd ln mem sz tg) (f : ∀ b j : Int, b ≠ 7 → m b j = mem b j) (hE : EB m) : INV kd ln m sz tg := h.fx EXT.rf (fun a j q _ => f a j (by omega)) hE
theorem INV.xfr (h : INV kd ln mem sz tg) (f : FR mem m) : INV kd ln m sz tg := h.fx EXT.rf (fun a j q _ => f a j (by omega) (by omega) (by omega) (by omega)) (h.eb.of7 (fun j => f 7 j (by decide) (by decide) (by decide) (by decide)))
theorem INV.xft (h : INV kd ln mem sz tg) (f : FT mem m) : INV kd ln m sz tg := h.fx EXT.rf (fun a j q _ => f a j (by omega) (by omega) (by omega) (by omega) (by omega)) (h.eb.of7 (fun j => f 7 j (by decide) (by decide) (by decide) (by decide) (by decide)))
theorem INV.xfl (h : INV kd ln mem sz tg) (f : FL mem m) : INV kd ln m sz tg := h.fx EXT.rf (fun a j q _ => f a j (by omega) (by omega) (by omega)) (h.eb.of7 (fun j => f 7 j (by omega) (by omega) (by omega)))
theorem INV.xfp (h : INV kd ln mem sz tg) (f : ∀ a j : Int, ¬ (a = 35 ∧ 12 ≤ j ∧ j ≤ 15) → a ≠ 40 → m a j = mem a j) : INV kd ln m sz tg := h.fx EXT.rf (fun a j q _ => f a j (by omega) (by omega)) (h.eb.of7 (fun j => f 7 j (by omega) (by omega)))
theorem INV.x59 (h : INV kd ln mem sz tg) (f : ∀ a j : Int, (a < 59 ∨ 62 < a) → m a j = mem a j) : INV kd ln m sz tg := h.fx EXT.rf (fun a j q _ => f a j (by omega)) (h.eb.of7 (fun j => f 7 j (by omega)))
theorem INV.xwo (h : INV kd ln mem sz tg) (f : WOF mem m) : INV kd ln m sz tg := h.fx EXT.rf (fun a j q _ => f a j (by omega) (by omega) (by omega)) (h.eb.of7 (fun j => f 7 j (by omega) (by omega) (by omega)))
theorem thr_o {t a j : Int} (h : ¬ (a = 35 ∧ j = 1)) : thr mem t a j = mem a j := if_neg h
theorem thr_e {t : Int} : EQS mem (thr mem t) := fun a j q => thr_o (by omega)
theorem INV.xth (h : INV kd ln mem sz tg) (t : Int) : INV kd ln (thr mem t) sz tg := h.fx EXT.rf (fun a j q _ => thr_o (by omega)) (h.eb.of7 (fun j => thr_o (by omega)))
end
theorem ST_wrong {kd : Int → Nat} {ln : Int → Int} {mem m1 m2 : Int → Int → Int} {sz : Nat} {tg : Int → Int} {p q v1 v2 : Int} (hI : INV kd ln mem sz tg) (hz : Z47 mem) (h1 : HR m1 ∧ (SCF mem m1 ∧ ((isPg mem p ∧ isKn mem q) → v1 = wrongN mem p q (mem 47 p).toNat) ∧ (¬ (isPg mem p ∧ isKn mem q) → v1 = -1))) (h2 : SR m2 ∧ (((isPg m1 p ∧ isKn m1 q) → v2 = wrongN m1 p q (m1 47 p).toNat ∧ FR m1 m2) ∧ (¬ (isPg m1 p ∧ isKn m1 q) → v2 = -1 ∧ m2 = m1))) : v1 = v2 ∧ LI kd ln m2 sz := by
  have hI1 := hI.xscf h1.2.1
  have hz1 : Z47 m1 := hz.eqs (SCF.qs h1.2.1)
  have he : EQS mem m1 := (SCF.qs h1.2.1)
  have ec : (isPg m1 p ∧ isKn m1 q) ↔ (isPg mem p ∧ isKn mem q) := by rw [ovr_ex he]; exact Iff.rfl
  have ef : wrongN m1 p q (m1 47 p).toNat = wrongN mem p q (mem 47 p).toNat := by rw [ovr_ex he]; exact cg_wrongN _ _ p q _
  by_cases hc : isPg mem p ∧ isKn mem q
  · have w2 := h2.2.1 (ec.mpr hc)
    rw [ef] at w2
    exact ⟨(h1.2.2.1 hc).trans w2.1.symm, tg, hI1.xfr w2.2, hz1.eqs (FR.qs w2.2)⟩
  · have w2 := h2.2.2 (fun u => hc (ec.mp u))
    exact ⟨(h1.2.2.2 hc).trans w2.1.symm, tg, by rw [w2.2]; exact hI1, by rw [w2.2]; exact hz1⟩
theorem ST_fails {kd : Int → Nat} {ln : Int → Int} {mem m1 m2 : Int → Int → Int} {sz : Nat} {tg : Int → Int} {p q v1 v2 : Int} (hI : INV kd ln mem sz tg) (hz : Z47 mem) (h1 : HR m1 ∧ (SCF mem m1 ∧ ((isPg mem p ∧ isKn mem q) → v1 = flN mem p (adS mem p q) (mem 47 p).toNat) ∧ (¬ (isPg mem p ∧ isKn mem q) → v1 = -1))) (h2 : SR m2 ∧ (((isPg m1 p ∧ isKn m1 q) → v2 = flN m1 p (adS m1 p q) (m1 47 p).toNat ∧ FR m1 m2) ∧ (¬ (isPg m1 p ∧ isKn m1 q) → v2 = -1 ∧ m2 = m1))) : v1 = v2 ∧ LI kd ln m2 sz := by
  have hI1 := hI.xscf h1.2.1
  have hz1 : Z47 m1 := hz.eqs (SCF.qs h1.2.1)
  have he : EQS mem m1 := (SCF.qs h1.2.1)
  have ec : (isPg m1 p ∧ isKn m1 q) ↔ (isPg mem p ∧ isKn mem q) := by rw [ovr_ex he]; exact Iff.rfl
  have ef : flN m1 p (adS m1 p q) (m1 47 p).toNat = flN mem p (adS mem p q) (mem 47 p).toNat := by rw [ovr_ex he, cg_adS]; exact cg_flN _ _ p _ _
  by_cases hc : isPg mem p ∧ isKn mem q
  · have w2 := h2.2.1 (ec.mpr hc)
    rw [ef] at w2
    exact ⟨(h1.2.2.1 hc).trans w2.1.symm, tg, hI1.xfr w2.2, hz1.eqs (FR.qs w2.2)⟩
  · have w2 := h2.2.2 (fun u => hc (ec.mp u))
    exact ⟨(h1.2.2.2 hc).trans w2.1.symm, tg, by rw [w2.2]; exact hI1, by rw [w2.2]; exact hz1⟩
theorem ST_unseen {kd : Int → Nat} {ln : Int → Int} {mem m1 m2 : Int → Int → Int} {sz : Nat} {tg : Int → Int} {p q v1 v2 : Int} (hI : INV kd ln mem sz tg) (hz : Z47 mem) (h1 : HR m1 ∧ (SCF mem m1 ∧ ((isPg mem p ∧ isKn mem q) → v1 = unN mem p q (mem 35 45).toNat) ∧ (¬ (isPg mem p ∧ isKn mem q) → v1 = -1))) (h2 : SR m2 ∧ (((isPg m1 p ∧ isKn m1 q) → v2 = unN m1 p q (m1 35 45).toNat ∧ FR m1 m2) ∧ (¬ (isPg m1 p ∧ isKn m1 q) → v2 = -1 ∧ m2 = m1))) : v1 = v2 ∧ LI kd ln m2 sz := by
  have hI1 := hI.xscf h1.2.1
  have hz1 : Z47 m1 := hz.eqs (SCF.qs h1.2.1)
  have he : EQS mem m1 := (SCF.qs h1.2.1)
  have ec : (isPg m1 p ∧ isKn m1 q) ↔ (isPg mem p ∧ isKn mem q) := by rw [ovr_ex he]; exact Iff.rfl
  have ef : unN m1 p q (m1 35 45).toNat = unN mem p q (mem 35 45).toNat := by rw [ovr_ex he]; exact cg_unN _ _ p q _
  by_cases hc : isPg mem p ∧ isKn mem q
  · have w2 := h2.2.1 (ec.mpr hc)
    rw [ef] at w2
    exact ⟨(h1.2.2.1 hc).trans w2.1.symm, tg, hI1.xfr w2.2, hz1.eqs (FR.qs w2.2)⟩
  · have w2 := h2.2.2 (fun u => hc (ec.mp u))
    exact ⟨(h1.2.2.2 hc).trans w2.1.symm, tg, by rw [w2.2]; exact hI1, by rw [w2.2]; exact hz1⟩
theorem ST_healed {kd : Int → Nat} {ln : Int → Int} {mem m1 m2 : Int → Int → Int} {sz : Nat} {tg : Int → Int} {p q v1 v2 : Int} (hI : INV kd ln mem sz tg) (hz : Z47 mem) (h1 : HR m1 ∧ (SCF mem m1 ∧ ((isPg mem p ∧ isKn mem q) → v1 = heN mem p q (mem 47 p).toNat) ∧ (¬ (isPg mem p ∧ isKn mem q) → v1 = -1))) (h2 : SR m2 ∧ (((isPg m1 p ∧ isKn m1 q) → v2 = heN m1 p q (m1 47 p).toNat ∧ FT m1 m2) ∧ (¬ (isPg m1 p ∧ isKn m1 q) → v2 = -1 ∧ m2 = m1))) : v1 = v2 ∧ LI kd ln m2 sz := by
  have hI1 := hI.xscf h1.2.1
  have hz1 : Z47 m1 := hz.eqs (SCF.qs h1.2.1)
  have he : EQS mem m1 := (SCF.qs h1.2.1)
  have ec : (isPg m1 p ∧ isKn m1 q) ↔ (isPg mem p ∧ isKn mem q) := by rw [ovr_ex he]; exact Iff.rfl
  have ef : heN m1 p q (m1 47 p).toNat = heN mem p q (mem 47 p).toNat := by rw [ovr_ex he]; exact cg_heN _ _ p q _
  by_cases hc : isPg mem p ∧ isKn mem q
  · have w2 := h2.2.1 (ec.mpr hc)
    rw [ef] at w2
    exact ⟨(h1.2.2.1 hc).trans w2.1.symm, tg, hI1.xft w2.2, hz1.eqs (FT.qs w2.2)⟩
  · have w2 := h2.2.2 (fun u => hc (ec.mp u))
    exact ⟨(h1.2.2.2 hc).trans w2.1.symm, tg, by rw [w2.2]; exact hI1, by rw [w2.2]; exact hz1⟩
theorem ST_least {kd : Int → Nat} {ln : Int → Int} {mem m1 m2 : Int → Int → Int} {sz : Nat} {tg : Int → Int} {p b q v1 v2 : Int} (hI : INV kd ln mem sz tg) (hz : Z47 mem) (h1 : HR m1 ∧ (SCE mem m1 ∧ (LSC mem p b q → v1 = (leastS mem p b q).1) ∧ (¬ LSC mem p b q → v1 = -1))) (h2 : SR m2 ∧ (((isPg m1 p ∧ (0 ≤ b ∧ b ≤ (m1 47 p + m1 52 p - 1) / m1 52 p - 1) ∧ isKn m1 q) → v2 = (leastS m1 p b q).1 ∧ FL m1 m2) ∧ (¬ (isPg m1 p ∧ (0 ≤ b ∧ b ≤ (m1 47 p + m1 52 p - 1) / m1 52 p - 1) ∧ isKn m1 q) → v2 = -1 ∧ m2 = m1))) : v1 = v2 ∧ LI kd ln m2 sz := by
  have hI1 := hI.xsce h1.2.1
  have hz1 : Z47 m1 := hz.eqs (SCE.qs h1.2.1)
  have he : EQS mem m1 := (SCE.qs h1.2.1)
  have ec : (LSC m1 p b q) ↔ (LSC mem p b q) := by rw [ovr_ex he]; exact Iff.rfl
  have ef : (leastS m1 p b q).1 = (leastS mem p b q).1 := by rw [ovr_ex he, cg_leastS]
  by_cases hc : LSC mem p b q
  · have w2 := h2.2.1 (ec.mpr hc)
    rw [ef] at w2
    exact ⟨(h1.2.2.1 hc).trans w2.1.symm, tg, hI1.xfl w2.2, hz1.eqs (FL.qs w2.2)⟩
  · have w2 := h2.2.2 (fun u => hc (ec.mp u))
    exact ⟨(h1.2.2.2 hc).trans w2.1.symm, tg, by rw [w2.2]; exact hI1, by rw [w2.2]; exact hz1⟩
theorem ST_ways {kd : Int → Nat} {ln : Int → Int} {mem m1 m2 : Int → Int → Int} {sz : Nat} {tg : Int → Int} {p b q v1 v2 : Int} (hI : INV kd ln mem sz tg) (hz : Z47 mem) (h1 : HR m1 ∧ (SCE mem m1 ∧ (LSC mem p b q → v1 = (if (leastS mem p b q).1 = -1 then -1 else (leastS mem p b q).2.1)) ∧ (¬ LSC mem p b q → v1 = -1))) (h2 : SR m2 ∧ (((isPg m1 p ∧ (0 ≤ b ∧ b ≤ (m1 47 p + m1 52 p - 1) / m1 52 p - 1) ∧ isKn m1 q) → v2 = (if (leastS m1 p b q).1 = -1 then -1 else (leastS m1 p b q).2.1) ∧ FL m1 m2) ∧ (¬ (isPg m1 p ∧ (0 ≤ b ∧ b ≤ (m1 47 p + m1 52 p - 1) / m1 52 p - 1) ∧ isKn m1 q) → v2 = -1 ∧ m2 = m1))) : v1 = v2 ∧ LI kd ln m2 sz := by
  have hI1 := hI.xsce h1.2.1
  have hz1 : Z47 m1 := hz.eqs (SCE.qs h1.2.1)
  have he : EQS mem m1 := (SCE.qs h1.2.1)
  have ec : (LSC m1 p b q) ↔ (LSC mem p b q) := by rw [ovr_ex he]; exact Iff.rfl
  have ef : (if (leastS m1 p b q).1 = -1 then -1 else (leastS m1 p b q).2.1) = (if (leastS mem p b q).1 = -1 then -1 else (leastS mem p b q).2.1) := by rw [ovr_ex he, cg_leastS]
  by_cases hc : LSC mem p b q
  · have w2 := h2.2.1 (ec.mpr hc)
    rw [ef] at w2
    exact ⟨(h1.2.2.1 hc).trans w2.1.symm, tg, hI1.xfl w2.2, hz1.eqs (FL.qs w2.2)⟩
  · have w2 := h2.2.2 (fun u => hc (ec.mp u))
    exact ⟨(h1.2.2.2 hc).trans w2.1.symm, tg, by rw [w2.2]; exact hI1, by rw [w2.2]; exact hz1⟩
theorem ST_proof {kd : Int → Nat} {ln : Int → Int} {mem m1 m2 : Int → Int → Int} {sz : Nat} {tg : Int → Int} {p w v1 v2 : Int} (hI : INV kd ln mem sz tg) (hz : Z47 mem) (h1 : HR m1 ∧ (SCF mem m1 ∧ ((isPlt mem p ∧ 0 ≤ w ∧ w ≤ 1) → v1 = (if w = 0 then pfK mem p (mem 47 p).toNat else pfF mem p (mem 47 p).toNat)) ∧ (¬ (isPlt mem p ∧ 0 ≤ w ∧ w ≤ 1) → v1 = -1))) (h2 : SR m2 ∧ (((isPlt m1 p ∧ 0 ≤ w ∧ w ≤ 1) → v2 = (if w = 0 then pfK m1 p (m1 47 p).toNat else pfF m1 p (m1 47 p).toNat) ∧ FR m1 m2) ∧ (¬ (isPlt m1 p ∧ 0 ≤ w ∧ w ≤ 1) → v2 = -1 ∧ m2 = m1))) : v1 = v2 ∧ LI kd ln m2 sz := by
  have hI1 := hI.xscf h1.2.1
  have hz1 : Z47 m1 := hz.eqs (SCF.qs h1.2.1)
  have he : EQS mem m1 := (SCF.qs h1.2.1)
  have ec : (isPlt m1 p ∧ 0 ≤ w ∧ w ≤ 1) ↔ (isPlt mem p ∧ 0 ≤ w ∧ w ≤ 1) := by rw [ovr_ex he]; exact Iff.rfl
  have ef : (if w = 0 then pfK m1 p (m1 47 p).toNat else pfF m1 p (m1 47 p).toNat) = (if w = 0 then pfK mem p (mem 47 p).toNat else pfF mem p (mem 47 p).toNat) := by rw [ovr_ex he]; rw [cg_pfK, cg_pfF]; rfl
  by_cases hc : isPlt mem p ∧ 0 ≤ w ∧ w ≤ 1
  · have w2 := h2.2.1 (ec.mpr hc)
    rw [ef] at w2
    exact ⟨(h1.2.2.1 hc).trans w2.1.symm, tg, hI1.xfr w2.2, hz1.eqs (FR.qs w2.2)⟩
  · have w2 := h2.2.2 (fun u => hc (ec.mp u))
    exact ⟨(h1.2.2.2 hc).trans w2.1.symm, tg, by rw [w2.2]; exact hI1, by rw [w2.2]; exact hz1⟩
theorem ST_best {kd : Int → Nat} {ln : Int → Int} {mem m1 m2 : Int → Int → Int} {sz : Nat} {tg : Int → Int} {f w n s p h k v1 v2 : Int} (hI : INV kd ln mem sz tg) (hz : Z47 mem) (h1 : HR m1 ∧ ((bestC mem f w n s p h k → v1 = bestV mem f w n s p h k) ∧ (¬ bestC mem f w n s p h k → v1 = -1) ∧ SCB mem m1)) (h2 : SR m2 ∧ ((bestC m1 f w n s p h k → v2 = bestV m1 f w n s p h k ∧ ∀ a j : Int, (a < 59 ∨ 62 < a) → m2 a j = m1 a j) ∧ (¬ bestC m1 f w n s p h k → v2 = -1 ∧ m2 = m1))) : v1 = v2 ∧ LI kd ln m2 sz := by
  have hI1 := hI.xscb h1.2.2.2
  have hz1 : Z47 m1 := hz.eqs (SCB.qs h1.2.2.2)
  have he : EQS mem m1 := (SCB.qs h1.2.2.2)
  have ec : (bestC m1 f w n s p h k) ↔ (bestC mem f w n s p h k) := by rw [ovr_ex he]; exact Iff.rfl
  have ef : bestV m1 f w n s p h k = bestV mem f w n s p h k := by rw [ovr_ex he]; exact cg_bestV _ _ f w n s p h k
  by_cases hc : bestC mem f w n s p h k
  · have w2 := h2.2.1 (ec.mpr hc)
    rw [ef] at w2
    exact ⟨(h1.2.1 hc).trans w2.1.symm, tg, hI1.x59 w2.2, hz1.eqs (F59.qs w2.2)⟩
  · have w2 := h2.2.2 (fun u => hc (ec.mp u))
    exact ⟨(h1.2.2.1 hc).trans w2.1.symm, tg, by rw [w2.2]; exact hI1, by rw [w2.2]; exact hz1⟩
theorem ST_check {kd : Int → Nat} {ln : Int → Int} {mem m1 m2 : Int → Int → Int} {sz : Nat} {tg : Int → Int} {p n q v1 v2 : Int} (hI : INV kd ln mem sz tg) (hz : Z47 mem) (h1 : HR m1 ∧ (SCF mem m1 ∧ ((isLn mem p n ∧ isKn mem q) → v1 = (if hldA mem p (adS mem p q) n then 1 else 0)) ∧ (¬ (isLn mem p n ∧ isKn mem q) → v1 = -1))) (h2 : SR m2 ∧ (((isLn m1 p n ∧ isKn m1 q) → v2 = (if hldA m1 p (adS m1 p q) n then 1 else 0) ∧ FR m1 m2) ∧ (¬ (isLn m1 p n ∧ isKn m1 q) → v2 = -1 ∧ m2 = m1))) : v1 = v2 ∧ LI kd ln m2 sz := by
  have he := SCF.qs h1.2.1
  have hI1 := hI.xscf h1.2.1
  have ec : (isLn m1 p n ∧ isKn m1 q) ↔ (isLn mem p n ∧ isKn mem q) := by rw [ovr_ex he]; exact Iff.rfl
  have eh : hldA m1 p (adS m1 p q) n ↔ hldA mem p (adS mem p q) n := by rw [ovr_ex he, cg_adS]; exact Iff.rfl
  by_cases hc : isLn mem p n ∧ isKn mem q
  · have w2 := h2.2.1 (ec.mpr hc)
    have w1 := h1.2.2.1 hc
    refine ⟨?_, tg, hI1.xfr w2.2, (hz.eqs he).eqs (FR.qs w2.2)⟩
    rw [w1, w2.1]
    by_cases hh : hldA mem p (adS mem p q) n
    · rw [if_pos hh, if_pos (eh.mpr hh)]
    · rw [if_neg hh, if_neg (fun u => hh (eh.mp u))]
  · have w2 := h2.2.2 (fun u => hc (ec.mp u))
    exact ⟨(h1.2.2.2 hc).trans w2.1.symm, tg, by rw [w2.2]; exact hI1, by rw [w2.2]; exact hz.eqs he⟩
theorem ST_kind {kd : Int → Nat} {ln : Int → Int} {mem m1 m2 : Int → Int → Int} {sz : Nat} {tg : Int → Int} {p n q v1 v2 : Int} (hI : INV kd ln mem sz tg) (hz : Z47 mem) (h1 : HR m1 ∧ (SCF mem m1 ∧ ((isLn mem p n ∧ isKn mem q) → ((∃ s : Int, 0 ≤ s ∧ s ≤ mem 35 45 - 1 ∧ mem 63 s = p ∧ mem 64 s = n ∧ mem 68 s ≠ -1 ∧ mem 68 s ≤ q) → v1 = 2) ∧ (¬ (∃ s : Int, 0 ≤ s ∧ s ≤ mem 35 45 - 1 ∧ mem 63 s = p ∧ mem 64 s = n ∧ mem 68 s ≠ -1 ∧ mem 68 s ≤ q) → ((∃ k : Int, n ≤ k ∧ k ≤ mem 47 p - 1 ∧ k ≤ n + mem 49 p + 1 ∧ k / mem 52 p = n / mem 52 p ∧ ¬ hldA mem p (adS mem p q) k) → v1 = 3) ∧ (¬ (∃ k : Int, n ≤ k ∧ k ≤ mem 47 p - 1 ∧ k ≤ n + mem 49 p + 1 ∧ k / mem 52 p = n / mem 52 p ∧ ¬ hldA mem p (adS mem p q) k) → v1 = (if n % mem 52 p > mem 49 p then 1 else 0)))) ∧ (¬ (isLn mem p n ∧ isKn mem q) → v1 = -1))) (h2 : SR m2 ∧ (((isLn m1 p n ∧ isKn m1 q) → FR m1 m2 ∧ ((∃ s : Int, 0 ≤ s ∧ s ≤ m1 35 45 - 1 ∧ m1 63 s = p ∧ m1 64 s = n ∧ m1 68 s ≠ -1 ∧ m1 68 s ≤ q) → v2 = 2) ∧ (¬ (∃ s : Int, 0 ≤ s ∧ s ≤ m1 35 45 - 1 ∧ m1 63 s = p ∧ m1 64 s = n ∧ m1 68 s ≠ -1 ∧ m1 68 s ≤ q) → ((∃ k : Int, n ≤ k ∧ k ≤ m1 47 p - 1 ∧ k ≤ n + m1 49 p + 1 ∧ k / m1 52 p = n / m1 52 p ∧ ¬ hldA m1 p (adS m1 p q) k) → v2 = 3) ∧ (¬ (∃ k : Int, n ≤ k ∧ k ≤ m1 47 p - 1 ∧ k ≤ n + m1 49 p + 1 ∧ k / m1 52 p = n / m1 52 p ∧ ¬ hldA m1 p (adS m1 p q) k) → v2 = (if n % m1 52 p > m1 49 p then 1 else 0)))) ∧ (¬ (isLn m1 p n ∧ isKn m1 q) → v2 = -1 ∧ m2 = m1))) : v1 = v2 ∧ LI kd ln m2 sz := by
  have he := SCF.qs h1.2.1
  have hI1 := hI.xscf h1.2.1
  have ec : (isLn m1 p n ∧ isKn m1 q) ↔ (isLn mem p n ∧ isKn mem q) := by rw [ovr_ex he]; exact Iff.rfl
  have es : (∃ s : Int, 0 ≤ s ∧ s ≤ m1 35 45 - 1 ∧ m1 63 s = p ∧ m1 64 s = n ∧ m1 68 s ≠ -1 ∧ m1 68 s ≤ q) ↔ (∃ s : Int, 0 ≤ s ∧ s ≤ mem 35 45 - 1 ∧ mem 63 s = p ∧ mem 64 s = n ∧ mem 68 s ≠ -1 ∧ mem 68 s ≤ q) := by rw [ovr_ex he]; exact Iff.rfl
  have ek : (∃ k : Int, n ≤ k ∧ k ≤ m1 47 p - 1 ∧ k ≤ n + m1 49 p + 1 ∧ k / m1 52 p = n / m1 52 p ∧ ¬ hldA m1 p (adS m1 p q) k) ↔ (∃ k : Int, n ≤ k ∧ k ≤ mem 47 p - 1 ∧ k ≤ n + mem 49 p + 1 ∧ k / mem 52 p = n / mem 52 p ∧ ¬ hldA mem p (adS mem p q) k) := by rw [ovr_ex he, cg_adS]; exact Iff.rfl
  by_cases hc : isLn mem p n ∧ isKn mem q
  · have w2 := h2.2.1 (ec.mpr hc)
    have w1 := h1.2.2.1 hc
    refine ⟨?_, tg, hI1.xfr w2.1, (hz.eqs he).eqs (FR.qs w2.1)⟩
    by_cases hs : ∃ s : Int, 0 ≤ s ∧ s ≤ mem 35 45 - 1 ∧ mem 63 s = p ∧ mem 64 s = n ∧ mem 68 s ≠ -1 ∧ mem 68 s ≤ q
    · rw [w1.1 hs, w2.2.1 (es.mpr hs)]
    · have x1 := w1.2 hs
      have x2 := w2.2.2 (fun u => hs (es.mp u))
      by_cases hk : ∃ k : Int, n ≤ k ∧ k ≤ mem 47 p - 1 ∧ k ≤ n + mem 49 p + 1 ∧ k / mem 52 p = n / mem 52 p ∧ ¬ hldA mem p (adS mem p q) k
      · rw [x1.1 hk, x2.1 (ek.mpr hk)]
      · rw [x1.2 hk, x2.2 (fun u => hk (ek.mp u)), he 52 p (by omega), he 49 p (by omega)]
  · have w2 := h2.2.2 (fun u => hc (ec.mp u))
    exact ⟨(h1.2.2.2 hc).trans w2.1.symm, tg, by rw [w2.2]; exact hI1, by rw [w2.2]; exact hz.eqs he⟩
theorem ST_first {kd : Int → Nat} {ln : Int → Int} {mem m1 m2 : Int → Int → Int} {sz : Nat} {tg : Int → Int} {p b q i w v1 v2 : Int} (hI : INV kd ln mem sz tg) (hz : Z47 mem) (h1 : HR m1 ∧ (SCE mem m1 ∧ ((LSC mem p b q ∧ (leastS mem p b q).1 ≠ -1 ∧ 0 ≤ i ∧ i ≤ (leastS mem p b q).1 - 1 ∧ 0 ≤ w ∧ w ≤ 2) → v1 = (if w = 0 then (leastS mem p b q).2.2.1 i else if w = 1 then (leastS mem p b q).2.2.2.1 i else (leastS mem p b q).2.2.2.2 i)) ∧ (¬ (LSC mem p b q ∧ (leastS mem p b q).1 ≠ -1 ∧ 0 ≤ i ∧ i ≤ (leastS mem p b q).1 - 1 ∧ 0 ≤ w ∧ w ≤ 2) → v1 = -2000000000))) (h2 : SR m2 ∧ ((((isPg m1 p ∧ (0 ≤ b ∧ b ≤ (m1 47 p + m1 52 p - 1) / m1 52 p - 1) ∧ isKn m1 q) ∧ (leastS m1 p b q).1 ≠ -1 ∧ 0 ≤ i ∧ i ≤ (leastS m1 p b q).1 - 1 ∧ 0 ≤ w ∧ w ≤ 2) → v2 = (if w = 0 then (leastS m1 p b q).2.2.1 i else if w = 1 then (leastS m1 p b q).2.2.2.1 i else (leastS m1 p b q).2.2.2.2 i)) ∧ (¬ ((isPg m1 p ∧ (0 ≤ b ∧ b ≤ (m1 47 p + m1 52 p - 1) / m1 52 p - 1) ∧ isKn m1 q) ∧ (leastS m1 p b q).1 ≠ -1 ∧ 0 ≤ i ∧ i ≤ (leastS m1 p b q).1 - 1 ∧ 0 ≤ w ∧ w ≤ 2) → v2 = -2000000000) ∧ ((isPg m1 p ∧ (0 ≤ b ∧ b ≤ (m1 47 p + m1 52 p - 1) / m1 52 p - 1) ∧ isKn m1 q) → FL m1 m2) ∧ (¬ (isPg m1 p ∧ (0 ≤ b ∧ b ≤ (m1 47 p + m1 52 p - 1) / m1 52 p - 1) ∧ isKn m1 q) → m2 = m1))) : v1 = v2 ∧ LI kd ln m2 sz := by
  have he := SCE.qs h1.2.1
  have hI1 := hI.xsce h1.2.1
  have el : leastS m1 p b q = leastS mem p b q := by rw [ovr_ex he, cg_leastS]
  have ec : LSC m1 p b q ↔ LSC mem p b q := by rw [ovr_ex he]; exact Iff.rfl
  rw [el] at h2
  have hL : LI kd ln m2 sz := by
    by_cases hc : LSC m1 p b q
    · exact ⟨tg, hI1.xfl (h2.2.2.2.1 hc), (hz.eqs he).eqs (FL.qs (h2.2.2.2.1 hc))⟩
    · rw [h2.2.2.2.2 hc]; exact ⟨tg, hI1, hz.eqs he⟩
  refine ⟨?_, hL⟩
  by_cases hc : (LSC mem p b q ∧ (leastS mem p b q).1 ≠ -1 ∧ 0 ≤ i ∧ i ≤ (leastS mem p b q).1 - 1 ∧ 0 ≤ w ∧ w ≤ 2)
  · rw [h1.2.2.1 hc, h2.2.1 ⟨ec.mpr hc.1, hc.2⟩]
  · rw [h1.2.2.2 hc, h2.2.2.1 (fun u => hc ⟨ec.mp u.1, u.2⟩)]
theorem ST_fault {kd : Int → Nat} {ln : Int → Int} {mem m1 m2 : Int → Int → Int} {sz : Nat} {tg : Int → Int} {v1 v2 : Int} (hI : INV kd ln mem sz tg) (hz : Z47 mem) (h1 : HR m1 ∧ (v1 = (fauP (mem 39) (mem 35 11)).1 ∧ (∀ b j : Int, b ≠ 7 → m1 b j = mem b j) ∧ EB m1)) (h2 : SR m2 ∧ (v2 = (fauP (m1 39) (m1 35 11)).1 ∧ FPS m1 m2)) : v1 = v2 ∧ LI kd ln m2 sz := by
  have he : EQS mem m1 := S7.qs h1.2.2.1
  have hI1 := hI.xs7 h1.2.2.1 h1.2.2.2
  refine ⟨?_, tg, hI1.xfp h2.2.2.1, (hz.eqs he).eqs (FPS.qs h2.2.2.1)⟩
  have e39 : m1 39 = mem 39 := funext fun j => h1.2.2.1 39 j (by decide)
  rw [h1.2.1, h2.2.1, e39, h1.2.2.1 35 11 (by decide)]
theorem ST_safe {kd : Int → Nat} {ln : Int → Int} {mem m2 : Int → Int → Int} {sz : Nat} {tg : Int → Int} {p n v2 : Int} (hI : INV kd ln mem sz tg) (hz : Z47 mem) (h2 : SR m2 ∧ (v2 = safeA mem p n ∧ FR mem m2)) : safeA mem p n = v2 ∧ LI kd ln m2 sz := by
  exact ⟨h2.2.1.symm, tg, hI.xfr h2.2.2, hz.eqs (FR.qs h2.2.2)⟩
theorem ST_spread {kd : Int → Nat} {ln : Int → Int} {mem m2 : Int → Int → Int} {sz : Nat} {tg : Int → Int} {p n c v2 : Int} (hI : INV kd ln mem sz tg) (hz : Z47 mem) (h2 : SR m2 ∧ (((isLn mem p n ∧ n % mem 52 p > mem 49 p ∧ (c = 9 ∨ (0 ≤ c ∧ c ≤ mem 49 p - 1))) → v2 = spN mem p (oneA (5 * n + slotV c) 1) (mem 47 p).toNat ∧ FT mem m2) ∧ (¬ (isLn mem p n ∧ n % mem 52 p > mem 49 p ∧ (c = 9 ∨ (0 ≤ c ∧ c ≤ mem 49 p - 1))) → v2 = -1 ∧ m2 = mem))) : spVV mem p n c = v2 ∧ LI kd ln m2 sz := by
  by_cases hc : spCC mem p n c
  · have w2 := h2.2.1 hc
    unfold spVV
    exact ⟨by rw [if_pos hc]; exact w2.1.symm, tg, hI.xft w2.2, hz.eqs (FT.qs w2.2)⟩
  · have w2 := h2.2.2 hc
    unfold spVV
    exact ⟨by rw [if_neg hc]; exact w2.1.symm, tg, by rw [w2.2]; exact hI, by rw [w2.2]; exact hz⟩
end ASKS
