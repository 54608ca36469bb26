section
/-- a reading from any state: it reads, or it stands still after a fault -/
def COM (mem mm : Int → Int → Int) (f : Int → PR) (v : Int) : Prop := (mem 7 2 = -1 → RES mem mm (f (mem 7 1)) v) ∧ (mem 7 2 ≠ -1 → v = 0 ∧ mm = mem)
theorem COM.ok {mem mm : Int → Int → Int} {f : Int → PR} {v : Int} (hw : mem 7 2 = -1) (h : RES mem mm (f (mem 7 1)) v) : COM mem mm f v := ⟨fun _ => h, fun q1 => absurd hw q1⟩
theorem COM.no {mem mm : Int → Int → Int} {f : Int → PR} {v : Int} (hw : mem 7 2 ≠ -1) (hv : v = 0) (hm : mm = mem) : COM mem mm f v := ⟨fun q1 => absurd q1 hw, fun _ => ⟨hv, hm⟩⟩
theorem envR_up {mem : Int → Int → Int} {a w : Int} : envR (upR mem a w) = envR mem := by
  funext x
  unfold envR
  rw [upR_o (by omega), upR_o (by omega), upR_o (by omega)]
theorem RES.base {mem mm : Int → Int → Int} {a w : Int} {rr : PR} {v : Int} (h : RES (upR mem a w) mm rr v) : RES mem mm rr v := by
  obtain ⟨h1, h2, h3⟩ := h
  refine ⟨h1, fun e => ?_, fun e => ?_⟩
  · obtain ⟨x1, x2⟩ := h2 e
    rw [upR_up] at x1
    rw [envR_up] at x2
    exact ⟨x1, x2⟩
  · obtain ⟨a', x1⟩ := h3 e
    rw [upR_up] at x1
    exact ⟨a', x1⟩
theorem RES.w {mem mm : Int → Int → Int} {rr : PR} {v : Int} (h : RES mem mm rr v) : mm 7 2 = rr.1 := by
  by_cases e : rr.1 = -1
  · rw [(h.2.1 e).1, e]; exact upR_2
  · obtain ⟨a', x1⟩ := h.2.2 e
    rw [x1]; exact upR_2
theorem RES.a {mem mm : Int → Int → Int} {rr : PR} {v : Int} (h : RES mem mm rr v) (e : rr.1 = -1) : mm 7 1 = rr.2.1 := by
  rw [(h.2.1 e).1]; exact upR_1
theorem RES.rd {kd : Int → Nat} {ln : Int → Int} {t r : Int} {T : Int → Int} {L : Int} {mem mm : Int → Int → Int} {rr : PR} {v : Int} (h : RES mem mm rr v) (hRD : RDX kd ln t r T L mem) : RDX kd ln t r T L mm := by
  by_cases e : rr.1 = -1
  · rw [(h.2.1 e).1]; exact hRD.up
  · obtain ⟨a', x1⟩ := h.2.2 e
    rw [x1]; exact hRD.up
theorem nsV_no {T : Int → Int} {L a w : Int} (h : w ≠ -1) : nsV T L a w = -2 := if_neg h
theorem nsV_in {T : Int → Int} {L a : Int} : nsV T L a (-1) = chr T L (skp T L a) := if_pos rfl
theorem nsA_no {T : Int → Int} {L a w : Int} (h : w ≠ -1) : nsA T L a w = a := if_neg h
theorem nsA_in {T : Int → Int} {L a : Int} : nsA T L a (-1) = skp T L a := if_pos rfl
theorem rfW_no {L a w : Int} (h : w ≠ -1) : rfW L a w = w := if_neg h
theorem rfW_in {L a : Int} (h : a ≤ L) : rfW L a (-1) = a := (if_pos rfl).trans (if_neg (by omega))
/-- blanks passed -/
def skR (T : Int → Int) (L : Int) (rr : PR) : PR := bnd rr (fun a c => okP (skp T L a) c)
theorem skR_1 {T : Int → Int} {L : Int} {rr : PR} : (skR T L rr).1 = rr.1 := by
  unfold skR
  by_cases e : rr.1 = -1
  · rw [bnd_is e, e]; rfl
  · rw [bnd_no e]; rfl
theorem skR_in {T : Int → Int} {L : Int} {rr : PR} (e : rr.1 = -1) : skR T L rr = okP (skp T L rr.2.1) rr.2.2 := bnd_is e
theorem skR_sk {T : Int → Int} {L : Int} {rr : PR} : skR T L (skR T L rr) = skR T L rr := by
  by_cases e : rr.1 = -1
  · rw [skR_in (skR_1.trans e), skR_in e]
    show okP (skp T L (skp T L rr.2.1)) rr.2.2 = _
    rw [skp_skp]
  · unfold skR
    rw [bnd_no (by rw [bnd_no e]; exact e), bnd_no e]
    rfl
/-- a sign asked for and not met -/
theorem RES.miss {T : Int → Int} {L : Int} {mem mm m2 : Int → Int → Int} {rr : PR} {v : Int} (h : RES mem mm rr v) (hm : m2 = upR mm (nsA T L (mm 7 1) (mm 7 2)) (mm 7 2)) : RES mem m2 (skR T L rr) v := by
  rw [h.w] at hm
  by_cases e : rr.1 = -1
  · rw [h.a e, e, nsA_in, (h.2.1 e).1, upR_up] at hm
    exact RES.ok h.1 (skR_in e) hm (h.2.1 e).2
  · obtain ⟨a', x1⟩ := h.2.2 e
    rw [nsA_no e, x1, upR_1, upR_up] at hm
    refine RES.er h.1 (bnd_no e) e hm
/-- a sign asked for and met -/
theorem RES.meet {T : Int → Int} {L k : Int} {mem mm m2 : Int → Int → Int} {rr : PR} {v : Int} (h : RES mem mm rr v) (hk : k ≠ -2) (hv : nsV T L (mm 7 1) (mm 7 2) = k) (hm : m2 = upR mm (nsA T L (mm 7 1) (mm 7 2) + 1) (mm 7 2)) : rr.1 = -1 ∧ chr T L (skp T L rr.2.1) = k ∧ m2 = upR mem (skp T L rr.2.1 + 1) (-1) := by
  rw [h.w] at hm hv
  by_cases e : rr.1 = -1
  · rw [h.a e, e, nsA_in, (h.2.1 e).1, upR_up] at hm
    rw [h.a e, e, nsV_in] at hv
    exact ⟨e, hv, hm⟩
  · rw [nsV_no e] at hv
    exact absurd hv.symm hk
theorem RES.nV {T : Int → Int} {L : Int} {mem mm : Int → Int → Int} {rr : PR} {v : Int} (h : RES mem mm rr v) (e : rr.1 = -1) : nsV T L (mm 7 1) (mm 7 2) = chr T L (skp T L rr.2.1) := by
  rw [h.w, h.a e, e]; exact nsV_in
/-- a sign demanded -/
theorem RES.dem {T : Int → Int} {L k : Int} {mem mm m2 : Int → Int → Int} {rr : PR} {v : Int} (h : RES mem mm rr v) (hk : k ≠ -2) (hb : rr.1 = -1 → 0 ≤ rr.2.1 ∧ rr.2.1 ≤ L) (hm : m2 = (if nsV T L (mm 7 1) (mm 7 2) = k then upR mm (nsA T L (mm 7 1) (mm 7 2) + 1) (mm 7 2) else upR mm (nsA T L (mm 7 1) (mm 7 2) + 1) (rfW L (nsA T L (mm 7 1) (mm 7 2)) (mm 7 2)))) : RES mem m2 (bnd rr (clsP T L k)) v := by
  by_cases q1 : nsV T L (mm 7 1) (mm 7 2) = k
  · rw [if_pos q1] at hm
    obtain ⟨e, hc, h2⟩ := h.meet hk q1 hm
    exact RES.ok h.1 ((bnd_is e).trans (if_pos hc)) h2 (h.2.1 e).2
  · rw [if_neg q1] at hm
    by_cases e : rr.1 = -1
    · have hc : chr T L (skp T L rr.2.1) ≠ k := fun q2 => q1 ((h.nV e).trans q2)
      have hsk := skp_f T L rr.2.1
      have hb2 := hb e
      have hs2 := hsk.2.1 hb2.2
      rw [h.w, h.a e, e, nsA_in, rfW_in hs2, (h.2.1 e).1, upR_up] at hm
      exact RES.er h.1 ((bnd_is e).trans (if_neg hc)) (by omega) hm
    · obtain ⟨a', x1⟩ := h.2.2 e
      rw [h.w, nsA_no e, rfW_no e, x1, upR_1, upR_up] at hm
      exact RES.er h.1 (bnd_no e) e hm
theorem at_in {T : Int → Int} {L a : Int} {inn : Int → PR} (h : chr T L (skp T L a) = 91) : atomW T L inn a = bnd (inn (skp T L a + 1)) (clsP T L 93) := if_pos h
theorem at_var {T : Int → Int} {L a : Int} {inn : Int → PR} (h2 : chr T L (skp T L a) = 110 ∨ chr T L (skp T L a) = 98 ∨ chr T L (skp T L a) = 120) : atomW T L inn a = okP (skp T L a + 1) [1, chr T L (skp T L a)] := (if_neg (by omega)).trans (if_pos h2)
theorem at_num {T : Int → Int} {L a : Int} {inn : Int → PR} (h1 : chr T L (skp T L a) ≠ 91) (h2 : ¬ (chr T L (skp T L a) = 110 ∨ chr T L (skp T L a) = 98 ∨ chr T L (skp T L a) = 120)) : atomW T L inn a = numP T L (skp T L a) := (if_neg h1).trans (if_neg h2)
theorem num_no {T : Int → Int} {L a : Int} (h : ¬ isDg (chr T L a)) : numP T L a = erP a := if_neg h
end
