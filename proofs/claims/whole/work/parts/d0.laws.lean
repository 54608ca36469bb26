section LAWS
/-- at the law's loop: the two sides, and the row for answers -/
def LINV (kd : Int → Nat) (ln : Int → Int) (mem : Int → Int → Int) (sz : Nat) : Prop := LI kd ln mem sz ∧ kd 100 = 21 ∧ ln 100 = 1
set_option maxRecDepth 100000 in
theorem cw_worth : (Jvm.Cond.codeWith ({ cls := "FigureHouseLaw", name := "worth", desc := "(LFigureHouse;IIIII[J)I" } : Jvm.MethodName) method_3_code (8 : Nat) (Option.some Jvm.ClassFile.FieldType.int) [((0 : Nat), (16 : Nat), (19 : Nat), (13 : Nat))]) ∈ lw_tbl := tb_6 (List.mem_of_getElem? (i := 35) rfl)
set_option maxRecDepth 100000 in
theorem cw_trueOf : (Jvm.Cond.codeWith ({ cls := "FigureHouseLaw", name := "trueOf", desc := "(LFigureHouse;II[J)I" } : Jvm.MethodName) method_4_code (5 : Nat) (Option.some Jvm.ClassFile.FieldType.int) [((0 : Nat), (9 : Nat), (12 : Nat), (13 : Nat))]) ∈ lw_tbl := tb_6 (List.mem_of_getElem? (i := 106) rfl)
set_option maxRecDepth 100000 in
theorem cw_figure : (Jvm.Cond.codeWith ({ cls := "FigureHouseLaw", name := "figure", desc := "(LFigureHouse;IIII[J)I" } : Jvm.MethodName) method_5_code (7 : Nat) (Option.some Jvm.ClassFile.FieldType.int) [((0 : Nat), (13 : Nat), (16 : Nat), (13 : Nat))]) ∈ lw_tbl := tb_6 (List.mem_of_getElem? (i := 113) rfl)
set_option maxRecDepth 100000 in
theorem cw_kept : (Jvm.Cond.codeWith ({ cls := "FigureHouseLaw", name := "kept", desc := "(LFigureHouse;III[J)I" } : Jvm.MethodName) method_6_code (6 : Nat) (Option.some Jvm.ClassFile.FieldType.int) [((0 : Nat), (11 : Nat), (14 : Nat), (13 : Nat))]) ∈ lw_tbl := tb_6 (List.mem_of_getElem? (i := 124) rfl)
set_option maxRecDepth 100000 in
theorem cw_right : (Jvm.Cond.codeWith ({ cls := "FigureHouseLaw", name := "right", desc := "(LFigureHouse;II[J)I" } : Jvm.MethodName) method_7_code (5 : Nat) (Option.some Jvm.ClassFile.FieldType.int) [((0 : Nat), (9 : Nat), (12 : Nat), (13 : Nat))]) ∈ lw_tbl := tb_6 (List.mem_of_getElem? (i := 131) rfl)
set_option maxRecDepth 100000 in
theorem cw_stray : (Jvm.Cond.codeWith ({ cls := "FigureHouseLaw", name := "stray", desc := "(LFigureHouse;II[J)I" } : Jvm.MethodName) method_8_code (5 : Nat) (Option.some Jvm.ClassFile.FieldType.int) [((0 : Nat), (9 : Nat), (12 : Nat), (13 : Nat))]) ∈ lw_tbl := tb_6 (List.mem_of_getElem? (i := 138) rfl)
set_option maxRecDepth 100000 in
theorem cw_printed : (Jvm.Cond.codeWith ({ cls := "FigureHouseLaw", name := "printed", desc := "(LFigureHouse;II[J)I" } : Jvm.MethodName) method_9_code (5 : Nat) (Option.some Jvm.ClassFile.FieldType.int) [((0 : Nat), (9 : Nat), (12 : Nat), (13 : Nat))]) ∈ lw_tbl := tb_6 (List.mem_of_getElem? (i := 145) rfl)
set_option maxRecDepth 100000 in
theorem cw_copied : (Jvm.Cond.codeWith ({ cls := "FigureHouseLaw", name := "copied", desc := "(LFigureHouse;II[J)I" } : Jvm.MethodName) method_10_code (5 : Nat) (Option.some Jvm.ClassFile.FieldType.int) [((0 : Nat), (9 : Nat), (12 : Nat), (13 : Nat))]) ∈ lw_tbl := tb_6 (List.mem_of_getElem? (i := 152) rfl)
theorem ST_whole {kd : Int → Nat} {ln : Int → Int} {mem : Int → Int → Int} {sz : Nat} {f x p v1 v2 : Int} (hx : LI kd ln mem sz) (h1 : (fnA mem f x p → (v1 = 1 ∧ wholeB mem f x p) ∨ (v1 = 0 ∧ ¬ wholeB mem f x p)) ∧ (¬ fnA mem f x p → v1 = -1)) (h2 : (fnA mem f x p → (v2 = 1 ∧ wholeB mem f x p) ∨ (v2 = 0 ∧ ¬ wholeB mem f x p)) ∧ (¬ fnA mem f x p → v2 = -1)) : v1 = v2 ∧ LI kd ln mem sz := by
  refine ⟨?_, hx⟩
  by_cases hc : fnA mem f x p
  · rcases h1.1 hc with ⟨u1, u2⟩ | ⟨u1, u2⟩
    · rcases h2.1 hc with ⟨u3, u4⟩ | ⟨u3, u4⟩
      · exact u1.trans u3.symm
      · exact absurd u2 u4
    · rcases h2.1 hc with ⟨u3, u4⟩ | ⟨u3, u4⟩
      · exact absurd u4 u2
      · exact u1.trans u3.symm
  · exact (h1.2 hc).trans (h2.2 hc).symm

theorem HL_worth {kd kd1 : Int → Nat} {ln ln1 : Int → Int} {mem m1 : Int → Int → Int} {sz sz1 : Nat} {tg : Int → Int} {t lab n b x v1 : Int} (hI : INV kd ln mem sz tg) (hz : Z47 mem) (hE : EXT kd ln sz kd1 ln1 sz1) (h1 : (HR m1 ∧ kd1 = kd ∧ ln1 = ln ∧ sz ≤ sz1) ∧ (((0 ≤ t ∧ t ≤ mem 35 16 - 1) ∧ isLb lab) → v1 = 0 ∧ ∃ m : Int → Int → Int, ((∀ b j : Int, b ≠ 7 → m b j = mem b j) ∧ EB m) ∧ m1 = set2 m 100 0 (worV (tTT mem t) (tLL mem t) (envF n b x) lab)) ∧ (¬ ((0 ≤ t ∧ t ≤ mem 35 16 - 1) ∧ isLb lab) → v1 = 1 ∧ SCF mem m1)) : kd1 = kd ∧ ln1 = ln ∧ INV kd1 ln1 m1 sz1 tg ∧ Z47 m1 ∧ EQS mem m1 ∧ (v1 = 0 ∨ v1 = 1) := by
  obtain ⟨⟨hR1, hk, hl, hs⟩, hc1, hn1⟩ := h1
  by_cases hc : (0 ≤ t ∧ t ≤ mem 35 16 - 1) ∧ isLb lab
  · obtain ⟨e1, m, hm, e2⟩ := hc1 hc
    have hIm := hI.xs7 hm.1 hm.2
    have hem : EQS mem m := S7.qs hm.1
    have he1 : EQS mem m1 := fun a j q => (congrFun (congrFun e2 a) j).trans ((s2_a (by omega)).trans (hem a j q))
    exact ⟨hk, hl, hIm.fx hE (fun a j q _ => by rw [e2]; exact s2_a (by omega)) (hIm.eb.of7 (fun j => by rw [e2]; exact s2_a (by decide))), hz.eqs he1, he1, Or.inl e1⟩
  · obtain ⟨e1, hf⟩ := hn1 hc
    exact ⟨hk, hl, hI.fx hE (fun a j q _ => hf a j (by omega) (by omega) (by omega)) (hI.eb.of7 (fun j => hf 7 j (by decide) (by decide) (by decide))), hz.eqs (SCF.qs hf), SCF.qs hf, Or.inr e1⟩
theorem TL_worth {kd kd1 : Int → Nat} {ln ln1 : Int → Int} {mem m1 m2 : Int → Int → Int} {sz sz1 : Nat} {tg : Int → Int} {t lab n b x v1 v2 : Int} (hI1 : INV kd1 ln1 m1 sz1 tg) (hz1 : Z47 m1) (he : EQS mem m1) (h1 : (HR m1 ∧ kd1 = kd ∧ ln1 = ln ∧ sz ≤ sz1) ∧ (((0 ≤ t ∧ t ≤ mem 35 16 - 1) ∧ isLb lab) → v1 = 0 ∧ ∃ m : Int → Int → Int, ((∀ b j : Int, b ≠ 7 → m b j = mem b j) ∧ EB m) ∧ m1 = set2 m 100 0 (worV (tTT mem t) (tLL mem t) (envF n b x) lab)) ∧ (¬ ((0 ≤ t ∧ t ≤ mem 35 16 - 1) ∧ isLb lab) → v1 = 1 ∧ SCF mem m1)) (h2 : SR m2 ∧ ((((0 ≤ t ∧ t ≤ m1 35 16 - 1) ∧ isLb lab) → v2 = worV ((tTT mem) t) ((tLL mem) t) (envF n b x) lab ∧ WOF (thr m1 0) m2) ∧ (¬ ((0 ≤ t ∧ t ≤ m1 35 16 - 1) ∧ isLb lab) → v2 = 0 ∧ m2 = thr m1 1))) : INV kd1 ln1 m2 sz1 tg ∧ Z47 m2 ∧ m2 35 1 = v1 ∧ (v1 = 0 → m2 100 0 = v2) := by
  obtain ⟨-, hc1, hn1⟩ := h1
  have ec : ((0 ≤ t ∧ t ≤ m1 35 16 - 1) ∧ isLb lab) ↔ ((0 ≤ t ∧ t ≤ mem 35 16 - 1) ∧ isLb lab) := by rw [ovr_ex he]; exact Iff.rfl
  have ef : (worV (tTT mem t) (tLL mem t) (envF n b x) lab) = (worV (tTT mem t) (tLL mem t) (envF n b x) lab) := rfl
  by_cases hc : (0 ≤ t ∧ t ≤ mem 35 16 - 1) ∧ isLb lab
  · obtain ⟨e1, m, hm, e2⟩ := hc1 hc
    have w2 := h2.2.1 (ec.mpr hc)
    have hFr := w2.2
    refine ⟨(hI1.xth 0).xwo hFr, (hz1.eqs thr_e).eqs (WOF.qs hFr), ?_, fun _ => ?_⟩
    · rw [e1, hFr 35 1 (by omega) (by omega) (by omega)]; exact s2_s
    · rw [hFr 100 0 (by omega) (by omega) (by omega), thr_o (by omega), e2, s2_s, w2.1, ef]
  · obtain ⟨e1, hf⟩ := hn1 hc
    have w2 := h2.2.2 (fun u => hc (ec.mp u))
    refine ⟨by rw [w2.2]; exact hI1.xth 1, by rw [w2.2]; exact hz1.eqs thr_e, ?_, fun u => ?_⟩
    · rw [e1, w2.2]; exact s2_s
    · rw [e1] at u; exact absurd u (by decide)
theorem HL_trueOf {kd kd1 : Int → Nat} {ln ln1 : Int → Int} {mem m1 : Int → Int → Int} {sz sz1 : Nat} {tg : Int → Int} {p n v1 : Int} (hI : INV kd ln mem sz tg) (hz : Z47 mem) (hE : EXT kd ln sz kd1 ln1 sz1) (h1 : (HR m1 ∧ kd1 = kd ∧ ln1 = ln ∧ sz ≤ sz1) ∧ ((isLn mem p n) → v1 = 0 ∧ ∃ m : Int → Int → Int, (m = mem) ∧ m1 = set2 m 100 0 (numT mem p n)) ∧ (¬ (isLn mem p n) → v1 = 1 ∧ SCF mem m1)) : kd1 = kd ∧ ln1 = ln ∧ INV kd1 ln1 m1 sz1 tg ∧ Z47 m1 ∧ EQS mem m1 ∧ (v1 = 0 ∨ v1 = 1) := by
  obtain ⟨⟨hR1, hk, hl, hs⟩, hc1, hn1⟩ := h1
  by_cases hc : isLn mem p n
  · obtain ⟨e1, m, hm, e2⟩ := hc1 hc
    rw [hm] at e2
    have hIm := hI
    have hem : EQS mem mem := fun _ _ _ => rfl
    have he1 : EQS mem m1 := fun a j q => (congrFun (congrFun e2 a) j).trans ((s2_a (by omega)).trans (hem a j q))
    exact ⟨hk, hl, hIm.fx hE (fun a j q _ => by rw [e2]; exact s2_a (by omega)) (hIm.eb.of7 (fun j => by rw [e2]; exact s2_a (by decide))), hz.eqs he1, he1, Or.inl e1⟩
  · obtain ⟨e1, hf⟩ := hn1 hc
    exact ⟨hk, hl, hI.fx hE (fun a j q _ => hf a j (by omega) (by omega) (by omega)) (hI.eb.of7 (fun j => hf 7 j (by decide) (by decide) (by decide))), hz.eqs (SCF.qs hf), SCF.qs hf, Or.inr e1⟩
theorem TL_trueOf {kd kd1 : Int → Nat} {ln ln1 : Int → Int} {mem m1 m2 : Int → Int → Int} {sz sz1 : Nat} {tg : Int → Int} {p n v1 v2 : Int} (hI1 : INV kd1 ln1 m1 sz1 tg) (hz1 : Z47 m1) (he : EQS mem m1) (h1 : (HR m1 ∧ kd1 = kd ∧ ln1 = ln ∧ sz ≤ sz1) ∧ ((isLn mem p n) → v1 = 0 ∧ ∃ m : Int → Int → Int, (m = mem) ∧ m1 = set2 m 100 0 (numT mem p n)) ∧ (¬ (isLn mem p n) → v1 = 1 ∧ SCF mem m1)) (h2 : SR m2 ∧ (((isLn m1 p n) → v2 = numT m1 p n ∧ FR (thr m1 0) m2) ∧ (¬ (isLn m1 p n) → v2 = 0 ∧ m2 = thr m1 1))) : INV kd1 ln1 m2 sz1 tg ∧ Z47 m2 ∧ m2 35 1 = v1 ∧ (v1 = 0 → m2 100 0 = v2) := by
  obtain ⟨-, hc1, hn1⟩ := h1
  have ec : (isLn m1 p n) ↔ (isLn mem p n) := by rw [ovr_ex he]; exact Iff.rfl
  have ef : (numT m1 p n) = (numT mem p n) := by rw [ovr_ex he]; exact cg_numT _ _ p n
  by_cases hc : isLn mem p n
  · obtain ⟨e1, m, hm, e2⟩ := hc1 hc
    have w2 := h2.2.1 (ec.mpr hc)
    have hFr := w2.2
    refine ⟨(hI1.xth 0).xfr hFr, (hz1.eqs thr_e).eqs (FR.qs hFr), ?_, fun _ => ?_⟩
    · rw [e1, hFr 35 1 (by omega) (by omega) (by omega) (by omega)]; exact s2_s
    · rw [hFr 100 0 (by omega) (by omega) (by omega) (by omega), thr_o (by omega), e2, s2_s, w2.1, ef]
  · obtain ⟨e1, hf⟩ := hn1 hc
    have w2 := h2.2.2 (fun u => hc (ec.mp u))
    refine ⟨by rw [w2.2]; exact hI1.xth 1, by rw [w2.2]; exact hz1.eqs thr_e, ?_, fun u => ?_⟩
    · rw [e1, w2.2]; exact s2_s
    · rw [e1] at u; exact absurd u (by decide)
theorem HL_figure {kd kd1 : Int → Nat} {ln ln1 : Int → Int} {mem m1 : Int → Int → Int} {sz sz1 : Nat} {tg : Int → Int} {p n c q v1 : Int} (hI : INV kd ln mem sz tg) (hz : Z47 mem) (hE : EXT kd ln sz kd1 ln1 sz1) (h1 : (HR m1 ∧ kd1 = kd ∧ ln1 = ln ∧ sz ≤ sz1) ∧ ((figC mem p n c q) → v1 = 0 ∧ ∃ m : Int → Int → Int, (SCF mem m) ∧ m1 = set2 m 100 0 ((if c = 9 then numQ mem p n q else colQ mem p n c q))) ∧ (¬ (figC mem p n c q) → v1 = 1 ∧ SCF mem m1)) : kd1 = kd ∧ ln1 = ln ∧ INV kd1 ln1 m1 sz1 tg ∧ Z47 m1 ∧ EQS mem m1 ∧ (v1 = 0 ∨ v1 = 1) := by
  obtain ⟨⟨hR1, hk, hl, hs⟩, hc1, hn1⟩ := h1
  by_cases hc : figC mem p n c q
  · obtain ⟨e1, m, hm, e2⟩ := hc1 hc
    have hIm := hI.xscf hm
    have hem := SCF.qs hm
    have he1 : EQS mem m1 := fun a j q => (congrFun (congrFun e2 a) j).trans ((s2_a (by omega)).trans (hem a j q))
    exact ⟨hk, hl, hIm.fx hE (fun a j q _ => by rw [e2]; exact s2_a (by omega)) (hIm.eb.of7 (fun j => by rw [e2]; exact s2_a (by decide))), hz.eqs he1, he1, Or.inl e1⟩
  · obtain ⟨e1, hf⟩ := hn1 hc
    exact ⟨hk, hl, hI.fx hE (fun a j q _ => hf a j (by omega) (by omega) (by omega)) (hI.eb.of7 (fun j => hf 7 j (by decide) (by decide) (by decide))), hz.eqs (SCF.qs hf), SCF.qs hf, Or.inr e1⟩
theorem TL_figure {kd kd1 : Int → Nat} {ln ln1 : Int → Int} {mem m1 m2 : Int → Int → Int} {sz sz1 : Nat} {tg : Int → Int} {p n c q v1 v2 : Int} (hI1 : INV kd1 ln1 m1 sz1 tg) (hz1 : Z47 m1) (he : EQS mem m1) (h1 : (HR m1 ∧ kd1 = kd ∧ ln1 = ln ∧ sz ≤ sz1) ∧ ((figC mem p n c q) → v1 = 0 ∧ ∃ m : Int → Int → Int, (SCF mem m) ∧ m1 = set2 m 100 0 ((if c = 9 then numQ mem p n q else colQ mem p n c q))) ∧ (¬ (figC mem p n c q) → v1 = 1 ∧ SCF mem m1)) (h2 : SR m2 ∧ (((figC m1 p n c q) → v2 = (if c = 9 then numQ m1 p n q else colQ m1 p n c q) ∧ FR (thr m1 0) m2) ∧ (¬ (figC m1 p n c q) → v2 = 0 ∧ m2 = thr m1 1))) : INV kd1 ln1 m2 sz1 tg ∧ Z47 m2 ∧ m2 35 1 = v1 ∧ (v1 = 0 → m2 100 0 = v2) := by
  obtain ⟨-, hc1, hn1⟩ := h1
  have ec : (figC m1 p n c q) ↔ (figC mem p n c q) := by rw [ovr_ex he]; exact Iff.rfl
  have ef : ((if c = 9 then numQ m1 p n q else colQ m1 p n c q)) = ((if c = 9 then numQ mem p n q else colQ mem p n c q)) := by rw [ovr_ex he, cg_numQ, cg_colQ]
  by_cases hc : figC mem p n c q
  · obtain ⟨e1, m, hm, e2⟩ := hc1 hc
    have w2 := h2.2.1 (ec.mpr hc)
    have hFr := w2.2
    refine ⟨(hI1.xth 0).xfr hFr, (hz1.eqs thr_e).eqs (FR.qs hFr), ?_, fun _ => ?_⟩
    · rw [e1, hFr 35 1 (by omega) (by omega) (by omega) (by omega)]; exact s2_s
    · rw [hFr 100 0 (by omega) (by omega) (by omega) (by omega), thr_o (by omega), e2, s2_s, w2.1, ef]
  · obtain ⟨e1, hf⟩ := hn1 hc
    have w2 := h2.2.2 (fun u => hc (ec.mp u))
    refine ⟨by rw [w2.2]; exact hI1.xth 1, by rw [w2.2]; exact hz1.eqs thr_e, ?_, fun u => ?_⟩
    · rw [e1, w2.2]; exact s2_s
    · rw [e1] at u; exact absurd u (by decide)
theorem HL_kept {kd kd1 : Int → Nat} {ln ln1 : Int → Int} {mem m1 : Int → Int → Int} {sz sz1 : Nat} {tg : Int → Int} {p n q v1 : Int} (hI : INV kd ln mem sz tg) (hz : Z47 mem) (hE : EXT kd ln sz kd1 ln1 sz1) (h1 : (HR m1 ∧ kd1 = kd ∧ ln1 = ln ∧ sz ≤ sz1) ∧ ((isLn mem p n ∧ isKn mem q) → v1 = 0 ∧ ∃ m : Int → Int → Int, (SCF mem m) ∧ m1 = set2 m 100 0 (keptV mem p (numQ mem p n q))) ∧ (¬ (isLn mem p n ∧ isKn mem q) → v1 = 1 ∧ SCF mem m1)) : kd1 = kd ∧ ln1 = ln ∧ INV kd1 ln1 m1 sz1 tg ∧ Z47 m1 ∧ EQS mem m1 ∧ (v1 = 0 ∨ v1 = 1) := by
  obtain ⟨⟨hR1, hk, hl, hs⟩, hc1, hn1⟩ := h1
  by_cases hc : isLn mem p n ∧ isKn mem q
  · obtain ⟨e1, m, hm, e2⟩ := hc1 hc
    have hIm := hI.xscf hm
    have hem := SCF.qs hm
    have he1 : EQS mem m1 := fun a j q => (congrFun (congrFun e2 a) j).trans ((s2_a (by omega)).trans (hem a j q))
    exact ⟨hk, hl, hIm.fx hE (fun a j q _ => by rw [e2]; exact s2_a (by omega)) (hIm.eb.of7 (fun j => by rw [e2]; exact s2_a (by decide))), hz.eqs he1, he1, Or.inl e1⟩
  · obtain ⟨e1, hf⟩ := hn1 hc
    exact ⟨hk, hl, hI.fx hE (fun a j q _ => hf a j (by omega) (by omega) (by omega)) (hI.eb.of7 (fun j => hf 7 j (by decide) (by decide) (by decide))), hz.eqs (SCF.qs hf), SCF.qs hf, Or.inr e1⟩
theorem TL_kept {kd kd1 : Int → Nat} {ln ln1 : Int → Int} {mem m1 m2 : Int → Int → Int} {sz sz1 : Nat} {tg : Int → Int} {p n q v1 v2 : Int} (hI1 : INV kd1 ln1 m1 sz1 tg) (hz1 : Z47 m1) (he : EQS mem m1) (h1 : (HR m1 ∧ kd1 = kd ∧ ln1 = ln ∧ sz ≤ sz1) ∧ ((isLn mem p n ∧ isKn mem q) → v1 = 0 ∧ ∃ m : Int → Int → Int, (SCF mem m) ∧ m1 = set2 m 100 0 (keptV mem p (numQ mem p n q))) ∧ (¬ (isLn mem p n ∧ isKn mem q) → v1 = 1 ∧ SCF mem m1)) (h2 : SR m2 ∧ (((isLn m1 p n ∧ isKn m1 q) → v2 = keptV m1 p (numQ m1 p n q) ∧ FR (thr m1 0) m2) ∧ (¬ (isLn m1 p n ∧ isKn m1 q) → v2 = 0 ∧ m2 = thr m1 1))) : INV kd1 ln1 m2 sz1 tg ∧ Z47 m2 ∧ m2 35 1 = v1 ∧ (v1 = 0 → m2 100 0 = v2) := by
  obtain ⟨-, hc1, hn1⟩ := h1
  have ec : (isLn m1 p n ∧ isKn m1 q) ↔ (isLn mem p n ∧ isKn mem q) := by rw [ovr_ex he]; exact Iff.rfl
  have ef : (keptV m1 p (numQ m1 p n q)) = (keptV mem p (numQ mem p n q)) := by rw [ovr_ex he, cg_numQ, cg_keptV]
  by_cases hc : isLn mem p n ∧ isKn mem q
  · obtain ⟨e1, m, hm, e2⟩ := hc1 hc
    have w2 := h2.2.1 (ec.mpr hc)
    have hFr := w2.2
    refine ⟨(hI1.xth 0).xfr hFr, (hz1.eqs thr_e).eqs (FR.qs hFr), ?_, fun _ => ?_⟩
    · rw [e1, hFr 35 1 (by omega) (by omega) (by omega) (by omega)]; exact s2_s
    · rw [hFr 100 0 (by omega) (by omega) (by omega) (by omega), thr_o (by omega), e2, s2_s, w2.1, ef]
  · obtain ⟨e1, hf⟩ := hn1 hc
    have w2 := h2.2.2 (fun u => hc (ec.mp u))
    refine ⟨by rw [w2.2]; exact hI1.xth 1, by rw [w2.2]; exact hz1.eqs thr_e, ?_, fun u => ?_⟩
    · rw [e1, w2.2]; exact s2_s
    · rw [e1] at u; exact absurd u (by decide)
theorem HL_right {kd kd1 : Int → Nat} {ln ln1 : Int → Int} {mem m1 : Int → Int → Int} {sz sz1 : Nat} {tg : Int → Int} {p n v1 : Int} (hI : INV kd ln mem sz tg) (hz : Z47 mem) (hE : EXT kd ln sz kd1 ln1 sz1) (h1 : (HR m1 ∧ kd1 = kd ∧ ln1 = ln ∧ sz ≤ sz1) ∧ ((isLn mem p n) → v1 = 0 ∧ ∃ m : Int → Int → Int, (m = mem) ∧ m1 = set2 m 100 0 (rightV mem p n)) ∧ (¬ (isLn mem p n) → v1 = 1 ∧ SCF mem m1)) : kd1 = kd ∧ ln1 = ln ∧ INV kd1 ln1 m1 sz1 tg ∧ Z47 m1 ∧ EQS mem m1 ∧ (v1 = 0 ∨ v1 = 1) := by
  obtain ⟨⟨hR1, hk, hl, hs⟩, hc1, hn1⟩ := h1
  by_cases hc : isLn mem p n
  · obtain ⟨e1, m, hm, e2⟩ := hc1 hc
    rw [hm] at e2
    have hIm := hI
    have hem : EQS mem mem := fun _ _ _ => rfl
    have he1 : EQS mem m1 := fun a j q => (congrFun (congrFun e2 a) j).trans ((s2_a (by omega)).trans (hem a j q))
    exact ⟨hk, hl, hIm.fx hE (fun a j q _ => by rw [e2]; exact s2_a (by omega)) (hIm.eb.of7 (fun j => by rw [e2]; exact s2_a (by decide))), hz.eqs he1, he1, Or.inl e1⟩
  · obtain ⟨e1, hf⟩ := hn1 hc
    exact ⟨hk, hl, hI.fx hE (fun a j q _ => hf a j (by omega) (by omega) (by omega)) (hI.eb.of7 (fun j => hf 7 j (by decide) (by decide) (by decide))), hz.eqs (SCF.qs hf), SCF.qs hf, Or.inr e1⟩
theorem TL_right {kd kd1 : Int → Nat} {ln ln1 : Int → Int} {mem m1 m2 : Int → Int → Int} {sz sz1 : Nat} {tg : Int → Int} {p n v1 v2 : Int} (hI1 : INV kd1 ln1 m1 sz1 tg) (hz1 : Z47 m1) (he : EQS mem m1) (h1 : (HR m1 ∧ kd1 = kd ∧ ln1 = ln ∧ sz ≤ sz1) ∧ ((isLn mem p n) → v1 = 0 ∧ ∃ m : Int → Int → Int, (m = mem) ∧ m1 = set2 m 100 0 (rightV mem p n)) ∧ (¬ (isLn mem p n) → v1 = 1 ∧ SCF mem m1)) (h2 : SR m2 ∧ (((isLn m1 p n) → v2 = rightV m1 p n ∧ m2 = thr m1 0) ∧ (¬ (isLn m1 p n) → v2 = 0 ∧ m2 = thr m1 1))) : INV kd1 ln1 m2 sz1 tg ∧ Z47 m2 ∧ m2 35 1 = v1 ∧ (v1 = 0 → m2 100 0 = v2) := by
  obtain ⟨-, hc1, hn1⟩ := h1
  have ec : (isLn m1 p n) ↔ (isLn mem p n) := by rw [ovr_ex he]; exact Iff.rfl
  have ef : (rightV m1 p n) = (rightV mem p n) := by rw [ovr_ex he]; exact cg_rightV _ _ p n
  by_cases hc : isLn mem p n
  · obtain ⟨e1, m, hm, e2⟩ := hc1 hc
    have w2 := h2.2.1 (ec.mpr hc)
    have hFr := w2.2
    refine ⟨by rw [hFr]; exact hI1.xth 0, by rw [hFr]; exact hz1.eqs thr_e, ?_, fun _ => ?_⟩
    · rw [e1, hFr]; exact s2_s
    · rw [hFr, thr_o (by omega), e2, s2_s, w2.1, ef]
  · obtain ⟨e1, hf⟩ := hn1 hc
    have w2 := h2.2.2 (fun u => hc (ec.mp u))
    refine ⟨by rw [w2.2]; exact hI1.xth 1, by rw [w2.2]; exact hz1.eqs thr_e, ?_, fun u => ?_⟩
    · rw [e1, w2.2]; exact s2_s
    · rw [e1] at u; exact absurd u (by decide)
theorem HL_stray {kd kd1 : Int → Nat} {ln ln1 : Int → Int} {mem m1 : Int → Int → Int} {sz sz1 : Nat} {tg : Int → Int} {p n v1 : Int} (hI : INV kd ln mem sz tg) (hz : Z47 mem) (hE : EXT kd ln sz kd1 ln1 sz1) (h1 : (HR m1 ∧ kd1 = kd ∧ ln1 = ln ∧ sz ≤ sz1) ∧ ((isLn mem p n) → v1 = 0 ∧ ∃ m : Int → Int → Int, (m = mem) ∧ m1 = set2 m 100 0 (numT mem p n - nearP mem p n)) ∧ (¬ (isLn mem p n) → v1 = 1 ∧ SCF mem m1)) : kd1 = kd ∧ ln1 = ln ∧ INV kd1 ln1 m1 sz1 tg ∧ Z47 m1 ∧ EQS mem m1 ∧ (v1 = 0 ∨ v1 = 1) := by
  obtain ⟨⟨hR1, hk, hl, hs⟩, hc1, hn1⟩ := h1
  by_cases hc : isLn mem p n
  · obtain ⟨e1, m, hm, e2⟩ := hc1 hc
    rw [hm] at e2
    have hIm := hI
    have hem : EQS mem mem := fun _ _ _ => rfl
    have he1 : EQS mem m1 := fun a j q => (congrFun (congrFun e2 a) j).trans ((s2_a (by omega)).trans (hem a j q))
    exact ⟨hk, hl, hIm.fx hE (fun a j q _ => by rw [e2]; exact s2_a (by omega)) (hIm.eb.of7 (fun j => by rw [e2]; exact s2_a (by decide))), hz.eqs he1, he1, Or.inl e1⟩
  · obtain ⟨e1, hf⟩ := hn1 hc
    exact ⟨hk, hl, hI.fx hE (fun a j q _ => hf a j (by omega) (by omega) (by omega)) (hI.eb.of7 (fun j => hf 7 j (by decide) (by decide) (by decide))), hz.eqs (SCF.qs hf), SCF.qs hf, Or.inr e1⟩
theorem TL_stray {kd kd1 : Int → Nat} {ln ln1 : Int → Int} {mem m1 m2 : Int → Int → Int} {sz sz1 : Nat} {tg : Int → Int} {p n v1 v2 : Int} (hI1 : INV kd1 ln1 m1 sz1 tg) (hz1 : Z47 m1) (he : EQS mem m1) (h1 : (HR m1 ∧ kd1 = kd ∧ ln1 = ln ∧ sz ≤ sz1) ∧ ((isLn mem p n) → v1 = 0 ∧ ∃ m : Int → Int → Int, (m = mem) ∧ m1 = set2 m 100 0 (numT mem p n - nearP mem p n)) ∧ (¬ (isLn mem p n) → v1 = 1 ∧ SCF mem m1)) (h2 : SR m2 ∧ (((isLn m1 p n) → v2 = numT m1 p n - nearP m1 p n ∧ FR (thr m1 0) m2) ∧ (¬ (isLn m1 p n) → v2 = 0 ∧ m2 = thr m1 1))) : INV kd1 ln1 m2 sz1 tg ∧ Z47 m2 ∧ m2 35 1 = v1 ∧ (v1 = 0 → m2 100 0 = v2) := by
  obtain ⟨-, hc1, hn1⟩ := h1
  have ec : (isLn m1 p n) ↔ (isLn mem p n) := by rw [ovr_ex he]; exact Iff.rfl
  have ef : (numT m1 p n - nearP m1 p n) = (numT mem p n - nearP mem p n) := by rw [ovr_ex he, cg_numT, cg_nearP]
  by_cases hc : isLn mem p n
  · obtain ⟨e1, m, hm, e2⟩ := hc1 hc
    have w2 := h2.2.1 (ec.mpr hc)
    have hFr := w2.2
    refine ⟨(hI1.xth 0).xfr hFr, (hz1.eqs thr_e).eqs (FR.qs hFr), ?_, fun _ => ?_⟩
    · rw [e1, hFr 35 1 (by omega) (by omega) (by omega) (by omega)]; exact s2_s
    · rw [hFr 100 0 (by omega) (by omega) (by omega) (by omega), thr_o (by omega), e2, s2_s, w2.1, ef]
  · obtain ⟨e1, hf⟩ := hn1 hc
    have w2 := h2.2.2 (fun u => hc (ec.mp u))
    refine ⟨by rw [w2.2]; exact hI1.xth 1, by rw [w2.2]; exact hz1.eqs thr_e, ?_, fun u => ?_⟩
    · rw [e1, w2.2]; exact s2_s
    · rw [e1] at u; exact absurd u (by decide)
theorem HL_printed {kd kd1 : Int → Nat} {ln ln1 : Int → Int} {mem m1 : Int → Int → Int} {sz sz1 : Nat} {tg : Int → Int} {p n v1 : Int} (hI : INV kd ln mem sz tg) (hz : Z47 mem) (hE : EXT kd ln sz kd1 ln1 sz1) (h1 : (HR m1 ∧ kd1 = kd ∧ ln1 = ln ∧ sz ≤ sz1) ∧ ((isLn mem p n ∧ mem 82 p = 1) → v1 = 0 ∧ ∃ m : Int → Int → Int, (m = mem) ∧ m1 = set2 m 100 0 (prtV mem p n)) ∧ (¬ (isLn mem p n ∧ mem 82 p = 1) → v1 = 1 ∧ SCF mem m1)) : kd1 = kd ∧ ln1 = ln ∧ INV kd1 ln1 m1 sz1 tg ∧ Z47 m1 ∧ EQS mem m1 ∧ (v1 = 0 ∨ v1 = 1) := by
  obtain ⟨⟨hR1, hk, hl, hs⟩, hc1, hn1⟩ := h1
  by_cases hc : isLn mem p n ∧ mem 82 p = 1
  · obtain ⟨e1, m, hm, e2⟩ := hc1 hc
    rw [hm] at e2
    have hIm := hI
    have hem : EQS mem mem := fun _ _ _ => rfl
    have he1 : EQS mem m1 := fun a j q => (congrFun (congrFun e2 a) j).trans ((s2_a (by omega)).trans (hem a j q))
    exact ⟨hk, hl, hIm.fx hE (fun a j q _ => by rw [e2]; exact s2_a (by omega)) (hIm.eb.of7 (fun j => by rw [e2]; exact s2_a (by decide))), hz.eqs he1, he1, Or.inl e1⟩
  · obtain ⟨e1, hf⟩ := hn1 hc
    exact ⟨hk, hl, hI.fx hE (fun a j q _ => hf a j (by omega) (by omega) (by omega)) (hI.eb.of7 (fun j => hf 7 j (by decide) (by decide) (by decide))), hz.eqs (SCF.qs hf), SCF.qs hf, Or.inr e1⟩
theorem TL_printed {kd kd1 : Int → Nat} {ln ln1 : Int → Int} {mem m1 m2 : Int → Int → Int} {sz sz1 : Nat} {tg : Int → Int} {p n v1 v2 : Int} (hI1 : INV kd1 ln1 m1 sz1 tg) (hz1 : Z47 m1) (he : EQS mem m1) (h1 : (HR m1 ∧ kd1 = kd ∧ ln1 = ln ∧ sz ≤ sz1) ∧ ((isLn mem p n ∧ mem 82 p = 1) → v1 = 0 ∧ ∃ m : Int → Int → Int, (m = mem) ∧ m1 = set2 m 100 0 (prtV mem p n)) ∧ (¬ (isLn mem p n ∧ mem 82 p = 1) → v1 = 1 ∧ SCF mem m1)) (h2 : SR m2 ∧ (((isPlt m1 p ∧ isLn m1 p n) → v2 = prtV m1 p n ∧ m2 = thr m1 0) ∧ (¬ (isPlt m1 p ∧ isLn m1 p n) → v2 = 0 ∧ m2 = thr m1 1))) : INV kd1 ln1 m2 sz1 tg ∧ Z47 m2 ∧ m2 35 1 = v1 ∧ (v1 = 0 → m2 100 0 = v2) := by
  obtain ⟨-, hc1, hn1⟩ := h1
  have ec : (isPlt m1 p ∧ isLn m1 p n) ↔ (isLn mem p n ∧ mem 82 p = 1) := by rw [ovr_ex he]; exact ⟨fun u => ⟨u.2, u.1.2⟩, fun u => ⟨⟨u.1.1, u.2⟩, u.1⟩⟩
  have ef : (prtV m1 p n) = (prtV mem p n) := by rw [ovr_ex he]; exact cg_prtV _ _ p n
  by_cases hc : isLn mem p n ∧ mem 82 p = 1
  · obtain ⟨e1, m, hm, e2⟩ := hc1 hc
    have w2 := h2.2.1 (ec.mpr hc)
    have hFr := w2.2
    refine ⟨by rw [hFr]; exact hI1.xth 0, by rw [hFr]; exact hz1.eqs thr_e, ?_, fun _ => ?_⟩
    · rw [e1, hFr]; exact s2_s
    · rw [hFr, thr_o (by omega), e2, s2_s, w2.1, ef]
  · obtain ⟨e1, hf⟩ := hn1 hc
    have w2 := h2.2.2 (fun u => hc (ec.mp u))
    refine ⟨by rw [w2.2]; exact hI1.xth 1, by rw [w2.2]; exact hz1.eqs thr_e, ?_, fun u => ?_⟩
    · rw [e1, w2.2]; exact s2_s
    · rw [e1] at u; exact absurd u (by decide)
theorem HL_copied {kd kd1 : Int → Nat} {ln ln1 : Int → Int} {mem m1 : Int → Int → Int} {sz sz1 : Nat} {tg : Int → Int} {c n v1 : Int} (hI : INV kd ln mem sz tg) (hz : Z47 mem) (hE : EXT kd ln sz kd1 ln1 sz1) (h1 : (HR m1 ∧ kd1 = kd ∧ ln1 = ln ∧ sz ≤ sz1) ∧ ((isCp mem c ∧ 0 ≤ n ∧ n ≤ mem 47 (mem 88 c) - 1) → v1 = 0 ∧ ∃ m : Int → Int → Int, (m = mem) ∧ m1 = set2 m 100 0 (mem 89 (40 * c + n))) ∧ (¬ (isCp mem c ∧ 0 ≤ n ∧ n ≤ mem 47 (mem 88 c) - 1) → v1 = 1 ∧ SCF mem m1)) : kd1 = kd ∧ ln1 = ln ∧ INV kd1 ln1 m1 sz1 tg ∧ Z47 m1 ∧ EQS mem m1 ∧ (v1 = 0 ∨ v1 = 1) := by
  obtain ⟨⟨hR1, hk, hl, hs⟩, hc1, hn1⟩ := h1
  by_cases hc : isCp mem c ∧ 0 ≤ n ∧ n ≤ mem 47 (mem 88 c) - 1
  · obtain ⟨e1, m, hm, e2⟩ := hc1 hc
    rw [hm] at e2
    have hIm := hI
    have hem : EQS mem mem := fun _ _ _ => rfl
    have he1 : EQS mem m1 := fun a j q => (congrFun (congrFun e2 a) j).trans ((s2_a (by omega)).trans (hem a j q))
    exact ⟨hk, hl, hIm.fx hE (fun a j q _ => by rw [e2]; exact s2_a (by omega)) (hIm.eb.of7 (fun j => by rw [e2]; exact s2_a (by decide))), hz.eqs he1, he1, Or.inl e1⟩
  · obtain ⟨e1, hf⟩ := hn1 hc
    exact ⟨hk, hl, hI.fx hE (fun a j q _ => hf a j (by omega) (by omega) (by omega)) (hI.eb.of7 (fun j => hf 7 j (by decide) (by decide) (by decide))), hz.eqs (SCF.qs hf), SCF.qs hf, Or.inr e1⟩
theorem TL_copied {kd kd1 : Int → Nat} {ln ln1 : Int → Int} {mem m1 m2 : Int → Int → Int} {sz sz1 : Nat} {tg : Int → Int} {c n v1 v2 : Int} (hI1 : INV kd1 ln1 m1 sz1 tg) (hz1 : Z47 m1) (he : EQS mem m1) (h1 : (HR m1 ∧ kd1 = kd ∧ ln1 = ln ∧ sz ≤ sz1) ∧ ((isCp mem c ∧ 0 ≤ n ∧ n ≤ mem 47 (mem 88 c) - 1) → v1 = 0 ∧ ∃ m : Int → Int → Int, (m = mem) ∧ m1 = set2 m 100 0 (mem 89 (40 * c + n))) ∧ (¬ (isCp mem c ∧ 0 ≤ n ∧ n ≤ mem 47 (mem 88 c) - 1) → v1 = 1 ∧ SCF mem m1)) (h2 : SR m2 ∧ (((isCp m1 c ∧ 0 ≤ n ∧ n ≤ m1 47 (m1 88 c) - 1) → v2 = m1 89 (40 * c + n) ∧ m2 = thr m1 0) ∧ (¬ (isCp m1 c ∧ 0 ≤ n ∧ n ≤ m1 47 (m1 88 c) - 1) → v2 = 0 ∧ m2 = thr m1 1))) : INV kd1 ln1 m2 sz1 tg ∧ Z47 m2 ∧ m2 35 1 = v1 ∧ (v1 = 0 → m2 100 0 = v2) := by
  obtain ⟨-, hc1, hn1⟩ := h1
  have ec : (isCp m1 c ∧ 0 ≤ n ∧ n ≤ m1 47 (m1 88 c) - 1) ↔ (isCp mem c ∧ 0 ≤ n ∧ n ≤ mem 47 (mem 88 c) - 1) := by rw [ovr_ex he]; exact Iff.rfl
  have ef : (m1 89 (40 * c + n)) = (mem 89 (40 * c + n)) := by rw [ovr_ex he]; rfl
  by_cases hc : isCp mem c ∧ 0 ≤ n ∧ n ≤ mem 47 (mem 88 c) - 1
  · obtain ⟨e1, m, hm, e2⟩ := hc1 hc
    have w2 := h2.2.1 (ec.mpr hc)
    have hFr := w2.2
    refine ⟨by rw [hFr]; exact hI1.xth 0, by rw [hFr]; exact hz1.eqs thr_e, ?_, fun _ => ?_⟩
    · rw [e1, hFr]; exact s2_s
    · rw [hFr, thr_o (by omega), e2, s2_s, w2.1, ef]
  · obtain ⟨e1, hf⟩ := hn1 hc
    have w2 := h2.2.2 (fun u => hc (ec.mp u))
    refine ⟨by rw [w2.2]; exact hI1.xth 1, by rw [w2.2]; exact hz1.eqs thr_e, ?_, fun u => ?_⟩
    · rw [e1, w2.2]; exact s2_s
    · rw [e1] at u; exact absurd u (by decide)
theorem WI_worth {kd : Int → Nat} {ln : Int → Int} {mem m1 m2 : Int → Int → Int} {sz : Nat} {tg : Int → Int} {t lab n b x v2 : Int} (hI : INV kd ln mem sz tg) (he : EQS mem m1) (h_n : InI n) (h_b : InI b) (h_x : InI x) (h2 : SR m2 ∧ ((((0 ≤ t ∧ t ≤ m1 35 16 - 1) ∧ isLb lab) → v2 = worV ((tTT mem) t) ((tLL mem) t) (envF n b x) lab ∧ WOF (thr m1 0) m2) ∧ (¬ ((0 ≤ t ∧ t ≤ m1 35 16 - 1) ∧ isLb lab) → v2 = 0 ∧ m2 = thr m1 1))) : InI v2 := by
  by_cases hc : (0 ≤ t ∧ t ≤ m1 35 16 - 1) ∧ isLb lab
  · have w := (h2.2.1 hc).1
    rw [w]
    have e := he 35 16 (by omega)
    have hp := hI.plsm.2.2 t hc.1.1 (by omega)
    exact worV_in (envF_in h_n h_b h_x) hp.1.1 hp.2.1
  · rw [(h2.2.2 hc).1]; exact ⟨by decide, by decide⟩
end LAWS
