section
/-- a reader's state that reads on -/
def STT (kd : Int → Nat) (ln : Int → Int) (t r : Int) (T : Int → Int) (L : Int) (mem : Int → Int → Int) : Prop := RDX kd ln t r T L mem ∧ EB mem ∧ (mem 7 2 = -1 → 0 ≤ mem 7 1 ∧ mem 7 1 ≤ L) ∧ InI (mem 7 2)
theorem STT.up {kd : Int → Nat} {ln : Int → Int} {t r : Int} {T : Int → Int} {L a w : Int} {mem : Int → Int → Int} (h : STT kd ln t r T L mem) (ha : w = -1 → 0 ≤ a ∧ a ≤ L) (hw : InI w) : STT kd ln t r T L (upR mem a w) :=
  ⟨h.1.up, h.2.1.up, by rw [upR_1, upR_2]; exact ha, by rw [upR_2]; exact hw⟩
theorem STT.L {kd : Int → Nat} {ln : Int → Int} {t r : Int} {T : Int → Int} {L : Int} {mem : Int → Int → Int} (h : STT kd ln t r T L mem) : 0 ≤ L ∧ L ≤ 160 := by
  obtain ⟨-, -, -, -, -, -, -, -, -, h1, h2, h3, -⟩ := h.1
  omega
theorem COM.st {kd : Int → Nat} {ln : Int → Int} {t r : Int} {T : Int → Int} {L v : Int} {mem mm : Int → Int → Int} {f : Int → PR} (hC : COM mem mm f v) (h : STT kd ln t r T L mem) (hf : ∀ a, 0 ≤ a → a ≤ L → GD T L a (f a)) : STT kd ln t r T L mm := by
  have hL := h.L
  have hrb : RB L (frA mem f) := by
    by_cases e : mem 7 2 = -1
    · rw [frA_in e]
      have := h.2.2.1 e
      exact RB.gd (hf _ this.1 this.2) this.1 hL.2
    · rw [frA_no e]
      exact ⟨h.2.2.2, fun q => absurd q e⟩
  by_cases e : (frA mem f).1 = -1
  · rw [(hC.2.1 e).1]
    exact h.up (fun _ => hrb.2 e) ⟨by decide, by decide⟩
  · obtain ⟨a', x1⟩ := hC.2.2 e
    rw [x1]
    exact h.up (fun q => absurd q e) hrb.1
theorem COM.bad {mem mm : Int → Int → Int} {f : Int → PR} {v : Int} (hC : COM mem mm f v) (e : mem 7 2 ≠ -1) : ∃ a' : Int, mm = upR mem a' (mem 7 2) := by
  unfold COM at hC
  rw [frA_no e] at hC
  exact hC.2.2 e
theorem COM.er {mem mm : Int → Int → Int} {f : Int → PR} {v : Int} (hv : -2147483648 ≤ v ∧ v ≤ 2147483647) (e : mem 7 2 ≠ -1) (h : ∃ a' : Int, mm = upR mem a' (mem 7 2)) : COM mem mm f v := by
  unfold COM
  rw [frA_no e]
  obtain ⟨a', h⟩ := h
  exact RES.er hv rfl e h
theorem bothV_cmp {s a b : Int} (hs : isSg s) : bothV s a b = if (if s = 61 then a = b else if s = 60 then a < b else b < a) then 1 else 0 := by
  unfold bothV
  rcases hs with rfl | rfl | rfl
  · rw [if_neg (by decide), if_neg (by decide), if_neg (by decide), if_neg (by decide), if_neg (by decide), if_pos rfl]
    split
    · rw [if_pos (by simpa)]
    · rw [if_neg (by simpa)]
  · rw [if_neg (by decide), if_neg (by decide), if_neg (by decide), if_neg (by decide), if_neg (by decide), if_neg (by decide), if_pos rfl]
    split
    · rw [if_pos (by simpa)]
    · rw [if_neg (by simp; omega)]
  · rw [if_neg (by decide), if_neg (by decide), if_neg (by decide), if_neg (by decide), if_neg (by decide), if_neg (by decide), if_neg (by decide), if_pos rfl]
    split
    · rw [if_pos (by simpa)]
    · rw [if_neg (by simp; omega)]
/-- a blank-passing look leaves a state that reads on -/
theorem nS_st {kd : Int → Nat} {ln : Int → Int} {t r : Int} {T : Int → Int} {L : Int} {mem m : Int → Int → Int} (h : STT kd ln t r T L mem) (hm : m = upR mem (nsA T L (mem 7 1) (mem 7 2)) (mem 7 2)) : STT kd ln t r T L m := by
  rw [hm]
  refine h.up (fun e => ?_) h.2.2.2
  rw [e, nsA_in]
  have h1 := h.2.2.1 e
  have h2 := skp_f T L (mem 7 1)
  have h3 := h2.2.1 h1.2
  omega
theorem met_st {kd : Int → Nat} {ln : Int → Int} {t r : Int} {T : Int → Int} {L : Int} {mem m : Int → Int → Int} (h : STT kd ln t r T L mem) (hv : 0 ≤ nsV T L (mem 7 1) (mem 7 2)) (hm : m = upR mem (nsA T L (mem 7 1) (mem 7 2) + 1) (mem 7 2)) : STT kd ln t r T L m := by
  rw [hm]
  refine h.up (fun e => ?_) h.2.2.2
  rw [e, nsV_in] at hv
  rw [e, nsA_in]
  have h1 := h.2.2.1 e
  have h2 := skp_f T L (mem 7 1)
  have h4 : skp T L (mem 7 1) < L := chr_lt T (by omega)
  omega
theorem mis_st {kd : Int → Nat} {ln : Int → Int} {t r : Int} {T : Int → Int} {L : Int} {mem m : Int → Int → Int} (h : STT kd ln t r T L mem) (hm : m = upR mem (nsA T L (mem 7 1) (mem 7 2) + 1) (rfW L (nsA T L (mem 7 1) (mem 7 2)) (mem 7 2))) : STT kd ln t r T L m := by
  rw [hm]
  by_cases e : mem 7 2 = -1
  · have h1 := h.2.2.1 e
    have h2 := skp_f T L (mem 7 1)
    have h3 := h2.2.1 h1.2
    have hL := h.L
    rw [e, nsA_in, rfW_in h3]
    exact h.up (fun q => by omega) ⟨by omega, by omega⟩
  · rw [rfW_no e]
    exact h.up (fun q => absurd q e) h.2.2.2
theorem dem_st {kd : Int → Nat} {ln : Int → Int} {t r : Int} {T : Int → Int} {L : Int} {mem m : Int → Int → Int} {P : Prop} (h : STT kd ln t r T L mem) (hP : P → 0 ≤ nsV T L (mem 7 1) (mem 7 2)) (h1 : P → m = upR mem (nsA T L (mem 7 1) (mem 7 2) + 1) (mem 7 2)) (h2 : ¬ P → m = upR mem (nsA T L (mem 7 1) (mem 7 2) + 1) (rfW L (nsA T L (mem 7 1) (mem 7 2)) (mem 7 2))) : STT kd ln t r T L m := by
  by_cases q : P
  · exact met_st h (hP q) (h1 q)
  · exact mis_st h (h2 q)
theorem un_not {T : Int → Int} {L a : Int} {u : Nat} (h : chr T L (skp T L a) = 33) : unitP T L u a = bnd (inuP T L u (skp T L a + 1)) (fun a' c => okP a' (c ++ [33])) := by rw [unitP_eq]; exact if_pos h
theorem un_par {T : Int → Int} {L a : Int} {u : Nat} (h : chr T L (skp T L a) = 40) : unitP T L u a = bnd (incP T L u (skp T L a + 1)) (clsP T L 41) := by rw [unitP_eq]; exact (if_neg (by omega)).trans (if_pos h)
theorem un_cmp {T : Int → Int} {L a : Int} {u : Nat} (h : chr T L (skp T L a) ≠ 33) (h2 : chr T L (skp T L a) ≠ 40) : unitP T L u a = bnd (sumP T L u (skp T L a)) (cmpP T L u) := by rw [unitP_eq]; exact (if_neg h).trans (if_neg h2)
/-- a look: the state behind it -/
theorem look_ok {mem m : Int → Int → Int} {T : Int → Int} {L v0 : Int} (hq : v0 = nsV T L (mem 7 1) (mem 7 2) ∧ m = upR mem (nsA T L (mem 7 1) (mem 7 2)) (mem 7 2)) (hw : mem 7 2 = -1) : v0 = chr T L (skp T L (mem 7 1)) ∧ m = upR mem (skp T L (mem 7 1)) (-1) ∧ m 7 1 = skp T L (mem 7 1) ∧ m 7 2 = -1 := by
  obtain ⟨hv, hm⟩ := hq
  rw [hw, nsV_in] at hv
  rw [hw, nsA_in] at hm
  exact ⟨hv, hm, by rw [hm]; exact upR_1, by rw [hm]; exact upR_2⟩
theorem look_no {mem m : Int → Int → Int} {T : Int → Int} {L v0 : Int} (hq : v0 = nsV T L (mem 7 1) (mem 7 2) ∧ m = upR mem (nsA T L (mem 7 1) (mem 7 2)) (mem 7 2)) (hw : mem 7 2 ≠ -1) : v0 = -2 ∧ m = mem := by
  obtain ⟨hv, hm⟩ := hq
  rw [nsA_no hw, ← upR_me] at hm
  exact ⟨hv.trans (nsV_no hw), hm⟩
theorem unit_cmp {mem m m1 m2 m3 : Int → Int → Int} {T : Int → Int} {L v0 v1 v2 s v : Int} {u : Nat} {C : Prop} (hq : v0 = nsV T L (mem 7 1) (mem 7 2) ∧ m = upR mem (nsA T L (mem 7 1) (mem 7 2)) (mem 7 2)) (hn : ¬ (v0 = 33 ∨ v0 = 40)) (ha : mem 7 2 = -1 → 0 ≤ mem 7 1 ∧ mem 7 1 ≤ L) (h1 : COM m m1 (sumP T L u) v1)
    (hs : s = nsV T L (m1 7 1) (m1 7 2) ∧ m2 = (if isSg (nsV T L (m1 7 1) (m1 7 2)) then upR m1 (nsA T L (m1 7 1) (m1 7 2) + 1) (m1 7 2) else upR m1 (nsA T L (m1 7 1) (m1 7 2) + 1) (rfW L (nsA T L (m1 7 1) (m1 7 2)) (m1 7 2)))) (h2 : COM m2 m3 (sumP T L u) v2) (hC : C ↔ (if s = 61 then v1 = v2 else if s = 60 then v1 < v2 else v2 < v1)) (hv : (v = 1 ∧ C) ∨ (v = 0 ∧ ¬ C)) : COM mem m3 (unitP T L u) v := by
  have hvb : -2147483648 ≤ v ∧ v ≤ 2147483647 := by omega
  by_cases hw : mem 7 2 = -1
  · refine COM.ok hw ?_
    obtain ⟨a1, a2, a3, a4⟩ := look_ok hq hw
    have hb := ha hw
    have hsk := skp_f T L (mem 7 1)
    have hs2 := hsk.2.1 hb.2
    rw [un_cmp (by omega) (by omega)]
    have g1 := h1.get a4
    rw [a3, a2] at g1
    have g2 := g1.base
    have gg := sumP_gd T L u (skp T L (mem 7 1)) (by omega) hs2
    by_cases e : (sumP T L u (skp T L (mem 7 1))).1 = -1
    · obtain ⟨x1, x2⟩ := g2.2.1 e
      obtain ⟨y1, y2, y3⟩ := (gg.1 e)
      rw [bnd_is e]
      have w1 : m1 7 2 = -1 := g2.w.trans e
      have w2 := g2.a e
      rw [w1, w2, nsV_in, nsA_in] at hs
      obtain ⟨s1, s2⟩ := hs
      have hk := skp_f T L (sumP T L u (skp T L (mem 7 1))).2.1
      have hk2 := hk.2.1 y2
      by_cases q : isSg (chr T L (skp T L (sumP T L u (skp T L (mem 7 1))).2.1))
      · rw [if_pos q, x1, upR_up] at s2
        have hlt : skp T L (sumP T L u (skp T L (mem 7 1))).2.1 < L := chr_lt T (by omega)
        have k1 := h2.get (by rw [s2]; exact upR_2)
        rw [s2, upR_1] at k1
        have k2 := k1.base
        have e3 : cmpP T L u (sumP T L u (skp T L (mem 7 1))).2.1 (sumP T L u (skp T L (mem 7 1))).2.2 = bnd (sumP T L u (skp T L (sumP T L u (skp T L (mem 7 1))).2.1 + 1)) (fun a' c' => okP a' ((sumP T L u (skp T L (mem 7 1))).2.2 ++ c' ++ [chr T L (skp T L (sumP T L u (skp T L (mem 7 1))).2.1)])) := if_pos q
        rw [e3]
        by_cases e2 : (sumP T L u (skp T L (sumP T L u (skp T L (mem 7 1))).2.1 + 1)).1 = -1
        · rw [bnd_is e2]
          obtain ⟨z1, z2⟩ := k2.2.1 e2
          refine RES.ok hvb rfl z1 ?_
          have hb3 := x2.bin z2 (x := chr T L (skp T L (sumP T L u (skp T L (mem 7 1))).2.1)) (by omega)
          rw [bothV_cmp q, ← s1] at hb3
          rw [← s1]
          have ev : v = if (if s = 61 then v1 = v2 else if s = 60 then v1 < v2 else v2 < v1) then 1 else 0 := by
            rcases hv with ⟨hv, hc⟩ | ⟨hv, hc⟩
            · rw [if_pos (hC.mp hc)]; exact hv
            · rw [if_neg (fun q => hc (hC.mpr q))]; exact hv
          rw [ev]
          exact hb3
        · rw [bnd_no e2]
          obtain ⟨a', z1⟩ := k2.2.2 e2
          exact RES.er hvb rfl e2 z1
      · rw [if_neg q, rfW_in hk2, x1, upR_up] at s2
        have e3 : cmpP T L u (sumP T L u (skp T L (mem 7 1))).2.1 (sumP T L u (skp T L (mem 7 1))).2.2 = erP (skp T L (sumP T L u (skp T L (mem 7 1))).2.1) := if_neg q
        rw [e3]
        have w3 : m2 7 2 = skp T L (sumP T L u (skp T L (mem 7 1))).2.1 := by rw [s2]; exact upR_2
        obtain ⟨a', z1⟩ := h2.bad (by omega)
        rw [w3, s2, upR_up] at z1
        exact RES.er hvb rfl (by omega) z1
    · rw [bnd_no e]
      obtain ⟨a', x1⟩ := g2.2.2 e
      have w1 : m1 7 2 = (sumP T L u (skp T L (mem 7 1))).1 := g2.w
      have ne : m1 7 2 ≠ -1 := by rw [w1]; exact e
      have ns : ¬ isSg (nsV T L (m1 7 1) (m1 7 2)) := by rw [nsV_no ne]; decide
      have s2 := hs.2
      rw [if_neg ns, rfW_no ne, x1, upR_up, upR_2] at s2
      have w3 : m2 7 2 = (sumP T L u (skp T L (mem 7 1))).1 := by rw [s2]; exact upR_2
      obtain ⟨a2', z1⟩ := h2.bad (by rw [w3]; exact e)
      rw [w3, s2, upR_up] at z1
      exact RES.er hvb rfl e z1
  · refine COM.er hvb hw ?_
    obtain ⟨a1, rfl⟩ := look_no hq hw
    obtain ⟨a', x1⟩ := h1.bad hw
    have w1 : m1 7 2 = m 7 2 := by rw [x1]; exact upR_2
    have ne : m1 7 2 ≠ -1 := by rw [w1]; exact hw
    have ns : ¬ isSg (nsV T L (m1 7 1) (m1 7 2)) := by rw [nsV_no ne]; decide
    have s2 := hs.2
    rw [if_neg ns, rfW_no ne, x1, upR_up, upR_2] at s2
    have w3 : m2 7 2 = m 7 2 := by rw [s2]; exact upR_2
    obtain ⟨a2', z1⟩ := h2.bad (by rw [w3]; exact hw)
    rw [w3, s2, upR_up] at z1
    exact ⟨a2', z1⟩
theorem look_yes {mem m : Int → Int → Int} {T : Int → Int} {L v0 : Int} (hq : v0 = nsV T L (mem 7 1) (mem 7 2) ∧ m = upR mem (nsA T L (mem 7 1) (mem 7 2)) (mem 7 2)) (hv : v0 ≠ -2) : mem 7 2 = -1 := by
  by_cases hw : mem 7 2 = -1
  · exact hw
  · exact absurd (look_no hq hw).1 hv
/-- a look, then the sign met: behind it -/
theorem look_met {mem m : Int → Int → Int} {T : Int → Int} {L v0 : Int} (hq : v0 = nsV T L (mem 7 1) (mem 7 2) ∧ m = upR mem (nsA T L (mem 7 1) (mem 7 2)) (mem 7 2)) (hv : v0 ≠ -2) : nsV T L (m 7 1) (m 7 2) = v0 ∧ upR m (nsA T L (m 7 1) (m 7 2) + 1) (m 7 2) = upR mem (skp T L (mem 7 1) + 1) (-1) := by
  obtain ⟨a1, a2, a3, a4⟩ := look_ok hq (look_yes hq hv)
  rw [a3, a4, nsV_in, nsA_in, skp_skp, a2, upR_up]
  exact ⟨a1.symm, rfl⟩
theorem unit_ref {mem m m3 : Int → Int → Int} {T : Int → Int} {L v0 : Int} (hq : v0 = nsV T L (mem 7 1) (mem 7 2) ∧ m = upR mem (nsA T L (mem 7 1) (mem 7 2)) (mem 7 2)) (hn : v0 = 33 ∨ v0 = 40) (ha : mem 7 2 = -1 → 0 ≤ mem 7 1 ∧ mem 7 1 ≤ L) (h5 : m3 = upR m (m 7 1) (rfW L (m 7 1) (m 7 2))) : COM mem m3 (unitP T L 0) 0 := by
  have hw := look_yes hq (by omega)
  refine COM.ok hw ?_
  obtain ⟨a1, a2, a3, a4⟩ := look_ok hq hw
  have hb := ha hw
  have hsk := skp_f T L (mem 7 1)
  have hs2 := hsk.2.1 hb.2
  rw [a3, a4, rfW_in hs2, a2, upR_up] at h5
  have e9 : noP (skp T L (mem 7 1) + 1) = erP (skp T L (mem 7 1)) := congrArg erP (by omega)
  rcases hn with hn | hn
  · rw [un_not (by omega), show inuP T L 0 = noP from rfl, e9, bnd_er (by omega)]
    exact RES.er (by omega) rfl (by omega) h5
  · rw [un_par (by omega), show incP T L 0 = noP from rfl, e9, bnd_er (by omega)]
    exact RES.er (by omega) rfl (by omega) h5
theorem unit_not {mem m m2 m3 : Int → Int → Int} {T : Int → Int} {L v0 v1 v : Int} {u : Nat} (hq : v0 = nsV T L (mem 7 1) (mem 7 2) ∧ m = upR mem (nsA T L (mem 7 1) (mem 7 2)) (mem 7 2)) (hn : v0 = 33) (h5 : m2 = upR m (nsA T L (m 7 1) (m 7 2) + 1) (m 7 2)) (hu : 1 ≤ u) (hC : COM m2 m3 (unitP T L (u - 1)) v1) (hv : v = notV v1) (hvb : -2147483648 ≤ v ∧ v ≤ 2147483647) : COM mem m3 (unitP T L u) v := by
  have hw := look_yes hq (by omega)
  obtain ⟨a1, a2, a3, a4⟩ := look_ok hq hw
  obtain ⟨-, b2⟩ := look_met hq (by omega)
  rw [b2] at h5
  refine COM.ok hw ?_
  rw [un_not (by omega)]
  have ei : inuP T L u = unitP T L (u - 1) := by cases u with | zero => omega | succ u2 => rfl
  rw [ei]
  have g1 := hC.get (by rw [h5]; exact upR_2)
  rw [h5, upR_1] at g1
  have g2 := g1.base
  by_cases e : (unitP T L (u - 1) (skp T L (mem 7 1) + 1)).1 = -1
  · rw [bnd_is e]
    obtain ⟨x1, x2⟩ := g2.2.1 e
    exact RES.ok hvb rfl x1 (by rw [hv]; exact x2.not)
  · rw [bnd_no e]
    obtain ⟨a', x1⟩ := g2.2.2 e
    exact RES.er hvb rfl e x1
theorem unit_par {mem m m2 m3 m4 : Int → Int → Int} {T : Int → Int} {L v0 v1 : Int} {u : Nat} (hq : v0 = nsV T L (mem 7 1) (mem 7 2) ∧ m = upR mem (nsA T L (mem 7 1) (mem 7 2)) (mem 7 2)) (ha : mem 7 2 = -1 → 0 ≤ mem 7 1 ∧ mem 7 1 ≤ L) (hL : L ≤ 160) (hn : v0 = 40) (h5 : m2 = upR m (nsA T L (m 7 1) (m 7 2) + 1) (m 7 2)) (hu : 1 ≤ u) (hC : COM m2 m3 (condP T L (u - 1)) v1) (h6 : m4 = (if nsV T L (m3 7 1) (m3 7 2) = 41 then upR m3 (nsA T L (m3 7 1) (m3 7 2) + 1) (m3 7 2) else upR m3 (nsA T L (m3 7 1) (m3 7 2) + 1) (rfW L (nsA T L (m3 7 1) (m3 7 2)) (m3 7 2)))) : COM mem m4 (unitP T L u) v1 := by
  have hw := look_yes hq (by omega)
  obtain ⟨a1, a2, a3, a4⟩ := look_ok hq hw
  obtain ⟨-, b2⟩ := look_met hq (by omega)
  rw [b2] at h5
  refine COM.ok hw ?_
  rw [un_par (by omega)]
  have ei : incP T L u = condP T L (u - 1) := by cases u with | zero => omega | succ u2 => rfl
  rw [ei]
  have g1 := hC.get (by rw [h5]; exact upR_2)
  rw [h5, upR_1] at g1
  have g2 := g1.base
  have hb := ha hw
  have hsk := skp_f T L (mem 7 1)
  have hlt : skp T L (mem 7 1) < L := chr_lt T (by omega)
  have gg := condP_gd T L (u - 1) (skp T L (mem 7 1) + 1) (by omega) (by omega)
  exact g2.dem (by decide) (fun e => by have y := gg.1 e; have y1 := y.1; have y2 := y.2.1; omega) h6
/-- the fused loop of a condition -/
def SOM (env : Int → Int) (cs : List Int) (s : Int) : Prop := (cs = [] ∧ s = 0) ∨ (cs ≠ [] ∧ EV env cs s)
theorem SOM.jn {env : Int → Int} {cs ca : List Int} {s al v : Int} (h : SOM env cs s) (h2 : EV env ca al) (hv : v = bothV 124 s al) (hal : al = 0 ∨ al = 1) : EV env (jnO cs ca) v := by
  rcases h with ⟨e, rfl⟩ | ⟨e, h1⟩
  · have : v = al := by rcases hal with rfl | rfl <;> exact hv
    rw [this, show jnO cs ca = ca from if_pos e]
    exact h2
  · rw [show jnO cs ca = cs ++ ca ++ [124] from if_neg e, hv]
    exact h1.bin h2 (by decide)
def CLP (T : Int → Int) (L : Int) (un : Int → PR) (tg : Int → PR) (mem mm : Int → Int → Int) (k : Nat) (rr : PR) (cs : List Int) (s al : Int) : Prop :=
  RES mem mm rr al ∧ RB L rr ∧ (s = 0 ∨ s = 1) ∧ (al = 0 ∨ al = 1) ∧ (mem 7 2 ≠ -1 → rr.1 = mem 7 2) ∧ (mem 7 2 = -1 → rr.1 ≠ -1 → (tg (mem 7 1)).1 = rr.1) ∧ (rr.1 = -1 → tg (mem 7 1) = flL T L un k rr.2.1 cs rr.2.2 ∧ L - rr.2.1 < k ∧ SOM (envR mem) cs s ∧ rr.2.2 ≠ [])
theorem CLP.ok0 {T : Int → Int} {L : Int} {un tg : Int → PR} {mem mm : Int → Int → Int} {k : Nat} {rr : PR} {cs : List Int} {s al : Int} (h : CLP T L un tg mem mm k rr cs s al) (e : rr.1 = -1) : mem 7 2 = -1 := by
  by_cases q : mem 7 2 = -1
  · exact q
  · exact absurd ((h.2.2.2.2.1 q).symm.trans e) q
theorem CLP.start {T : Int → Int} {L : Int} {un tg : Int → PR} {mem mm : Int → Int → Int} {al : Int} (h : COM mem mm un al) (hal : al = 0 ∨ al = 1) (ht : ∀ a, 0 ≤ a → a ≤ L → tg a = bnd (un a) (fun a' c' => flL T L un 200 a' [] c')) (hs : ∀ a, 0 ≤ a → a ≤ L → GD T L a (un a)) (ha : mem 7 2 = -1 → 0 ≤ mem 7 1 ∧ mem 7 1 ≤ L) (hw : InI (mem 7 2)) (hL : L ≤ 160) : CLP T L un tg mem mm 200 (frA mem un) [] 0 al := by
  by_cases e : mem 7 2 = -1
  · have hb := ha e
    have hg := hs _ hb.1 hb.2
    have hrb := RB.gd hg hb.1 hL
    refine ⟨h, ?_⟩
    rw [frA_in e]
    refine ⟨hrb, Or.inl rfl, hal, fun q => absurd e q, fun _ q => ?_, fun q => ⟨?_, ?_, Or.inl ⟨rfl, rfl⟩, (hg.1 q).ne⟩⟩
    · rw [ht _ hb.1 hb.2, bnd_no q]; rfl
    · rw [ht _ hb.1 hb.2, bnd_is q]
    · have := hrb.2 q; omega
  · refine ⟨h, ?_⟩
    rw [frA_no e]
    exact ⟨⟨hw, fun q => absurd q e⟩, Or.inl rfl, hal, fun _ => rfl, fun q => absurd q e, fun q => absurd q e⟩
/-- a sign met in the loop's state, or behind a look of it -/
theorem CLP.met {T : Int → Int} {L c : Int} {un tg : Int → PR} {mem mm m0 m2 : Int → Int → Int} {k : Nat} {rr : PR} {cs : List Int} {s al : Int} (h : CLP T L un tg mem mm k rr cs s al) (hc : 0 ≤ c) (h0 : RES mem m0 rr al ∨ RES mem m0 (skR T L rr) al) (hv : nsV T L (m0 7 1) (m0 7 2) = c) (hm : m2 = upR m0 (nsA T L (m0 7 1) (m0 7 2) + 1) (m0 7 2)) : rr.1 = -1 ∧ chr T L (skp T L rr.2.1) = c ∧ m2 = upR mem (skp T L rr.2.1 + 1) (-1) ∧ 0 ≤ skp T L rr.2.1 + 1 ∧ skp T L rr.2.1 + 1 ≤ L ∧ rr.2.1 ≤ skp T L rr.2.1 := by
  have key : rr.1 = -1 ∧ chr T L (skp T L rr.2.1) = c ∧ m2 = upR mem (skp T L rr.2.1 + 1) (-1) := by
    rcases h0 with h0 | h0
    · exact h0.meet (by omega) hv hm
    · obtain ⟨e1, e2, e3⟩ := h0.meet (by omega) hv hm
      rw [skR_1] at e1
      rw [skR_in e1] at e2 e3
      have e4 : skp T L (okP (skp T L rr.2.1) rr.2.2).2.1 = skp T L rr.2.1 := skp_skp T L rr.2.1
      rw [e4] at e2 e3
      exact ⟨e1, e2, e3⟩
  obtain ⟨e1, e2, e3⟩ := key
  have hb := h.2.1.2 e1
  have hsk := skp_f T L rr.2.1
  have hlt : skp T L rr.2.1 < L := chr_lt T (by omega)
  exact ⟨e1, e2, e3, by omega, by omega, hsk.1⟩
theorem CLP.and {T : Int → Int} {L : Int} {un tg : Int → PR} {mem mm m2 m3 : Int → Int → Int} {k : Nat} {rr : PR} {cs : List Int} {s al v al2 : Int} (h : CLP T L un tg mem mm k rr cs s al) (hL : L ≤ 160) (hs : ∀ a, 0 ≤ a → a ≤ L → GD T L a (un a)) (hm : rr.1 = -1 ∧ chr T L (skp T L rr.2.1) = 38 ∧ m2 = upR mem (skp T L rr.2.1 + 1) (-1) ∧ 0 ≤ skp T L rr.2.1 + 1 ∧ skp T L rr.2.1 + 1 ≤ L ∧ rr.2.1 ≤ skp T L rr.2.1) (hC : COM m2 m3 un v) (hv : v = 0 ∨ v = 1) (ha : al2 = bothV 38 al v) :
    CLP T L un tg mem m3 (k - 1) (bnd (un (skp T L rr.2.1 + 1)) (fun a' c' => okP a' (rr.2.2 ++ c' ++ [38]))) cs s al2 ∧ ((bnd (un (skp T L rr.2.1 + 1)) (fun a' c' => okP a' (rr.2.2 ++ c' ++ [38]))).1 = -1 → rr.2.1 < (bnd (un (skp T L rr.2.1 + 1)) (fun a' c' => okP a' (rr.2.2 ++ c' ++ [38]))).2.1) := by
  obtain ⟨e1, e2, e3, e4, e5, e6⟩ := hm
  have e0 := h.ok0 e1
  obtain ⟨h1, h2, h3, h4, h5, h6, h7⟩ := h
  obtain ⟨t1, t2, t3, t4⟩ := h7 e1
  have hal2 : al2 = 0 ∨ al2 = 1 := by rcases h4 with rfl | rfl <;> rcases hv with rfl | rfl <;> rw [ha] <;> decide
  have g1 := hC.get (by rw [e3]; exact upR_2)
  rw [e3, upR_1] at g1
  have g2 := g1.base
  have hg := hs _ e4 e5
  have hrb := RB.gd hg e4 hL
  obtain ⟨k, rfl⟩ : ∃ j, k = j + 1 := ⟨k - 1, by have := h2.2 e1; omega⟩
  have et : flL T L un (k + 1) rr.2.1 cs rr.2.2 = bnd (un (skp T L rr.2.1 + 1)) (fun a' c' => flL T L un k a' cs (rr.2.2 ++ c' ++ [38])) := by rw [flL, if_pos e2]
  by_cases e : (un (skp T L rr.2.1 + 1)).1 = -1
  · obtain ⟨x1, x2⟩ := g2.2.1 e
    have y1 := (h1.2.1 e1).2
    have hgt := (hg.1 e).1
    have hb := hrb.2 e
    rw [bnd_is e]
    refine ⟨⟨RES.ok (by omega) rfl x1 (by rw [ha]; exact y1.bin x2 (by decide)), ⟨(⟨by decide, by decide⟩ : InI (-1)), fun _ => hb⟩, h3, hal2, fun q => absurd e0 q, fun _ q => absurd rfl q, fun _ => ⟨?_, ?_, t3, by simp [okP]⟩⟩, fun _ => ?_⟩
    · rw [t1, et, bnd_is e]; rfl
    · show L - (un (skp T L rr.2.1 + 1)).2.1 < _; omega
    · show rr.2.1 < (un (skp T L rr.2.1 + 1)).2.1; omega
  · obtain ⟨a', x1⟩ := g2.2.2 e
    rw [bnd_no e]
    refine ⟨⟨RES.er (by omega) rfl e x1, ⟨hrb.1, fun q => absurd q e⟩, h3, hal2, fun q => absurd e0 q, fun _ _ => ?_, fun q => absurd q e⟩, fun q => absurd q e⟩
    rw [t1, et, bnd_no e]
theorem CLP.or {T : Int → Int} {L : Int} {un tg : Int → PR} {mem mm m2 m3 : Int → Int → Int} {k : Nat} {rr : PR} {cs : List Int} {s al v s2 : Int} (h : CLP T L un tg mem mm k rr cs s al) (hL : L ≤ 160) (hs : ∀ a, 0 ≤ a → a ≤ L → GD T L a (un a)) (hm : rr.1 = -1 ∧ chr T L (skp T L rr.2.1) = 124 ∧ m2 = upR mem (skp T L rr.2.1 + 1) (-1) ∧ 0 ≤ skp T L rr.2.1 + 1 ∧ skp T L rr.2.1 + 1 ≤ L ∧ rr.2.1 ≤ skp T L rr.2.1) (hC : COM m2 m3 un v) (hv : v = 0 ∨ v = 1) (ha : s2 = bothV 124 s al) :
    CLP T L un tg mem m3 (k - 1) (un (skp T L rr.2.1 + 1)) (jnO cs rr.2.2) s2 v ∧ ((un (skp T L rr.2.1 + 1)).1 = -1 → rr.2.1 < (un (skp T L rr.2.1 + 1)).2.1) := by
  obtain ⟨e1, e2, e3, e4, e5, e6⟩ := hm
  have e0 := h.ok0 e1
  obtain ⟨h1, h2, h3, h4, h5, h6, h7⟩ := h
  obtain ⟨t1, t2, t3, t4⟩ := h7 e1
  have hs2 : s2 = 0 ∨ s2 = 1 := by rcases h4 with rfl | rfl <;> rcases h3 with rfl | rfl <;> rw [ha] <;> decide
  have g1 := hC.get (by rw [e3]; exact upR_2)
  rw [e3, upR_1] at g1
  have g2 := g1.base
  have hg := hs _ e4 e5
  have hrb := RB.gd hg e4 hL
  obtain ⟨k, rfl⟩ : ∃ j, k = j + 1 := ⟨k - 1, by have := h2.2 e1; omega⟩
  have et : flL T L un (k + 1) rr.2.1 cs rr.2.2 = bnd (un (skp T L rr.2.1 + 1)) (fun a' c' => flL T L un k a' (jnO cs rr.2.2) c') := by rw [flL, if_neg (by omega), if_pos e2]
  have y1 := (h1.2.1 e1).2
  refine ⟨⟨g2, hrb, hs2, hv, fun q => absurd e0 q, fun _ e => ?_, fun e => ⟨?_, ?_, Or.inr ⟨jnO_ne t4, t3.jn y1 ha h4⟩, (hg.1 e).ne⟩⟩, fun e => ?_⟩
  · rw [t1, et, bnd_no e]; rfl
  · rw [t1, et, bnd_is e]; rfl
  · have hgt := (hg.1 e).1; omega
  · have hgt := (hg.1 e).1; omega
theorem CLP.out {T : Int → Int} {L : Int} {un tg : Int → PR} {mem mm m2 : Int → Int → Int} {k : Nat} {rr : PR} {cs : List Int} {s al v : Int} (h : CLP T L un tg mem mm k rr cs s al) (h2 : RES mem m2 (skR T L rr) al) (hn : rr.1 = -1 → chr T L (skp T L rr.2.1) ≠ 38 ∧ chr T L (skp T L rr.2.1) ≠ 124) (hv : v = bothV 124 s al) (hvb : -2147483648 ≤ v ∧ v ≤ 2147483647) : COM mem m2 tg v := by
  by_cases e1 : rr.1 = -1
  · have e0 := h.ok0 e1
    refine COM.ok e0 ?_
    obtain ⟨t1, t2, t3, t4⟩ := h.2.2.2.2.2.2 e1
    have hb := h.2.1.2 e1
    obtain ⟨k, rfl⟩ : ∃ j, k = j + 1 := ⟨k - 1, by omega⟩
    have n1 := hn e1
    rw [t1, flL, if_neg n1.1, if_neg n1.2]
    rw [skR_in e1] at h2
    obtain ⟨x1, x2⟩ := h2.2.1 rfl
    exact RES.ok hvb rfl x1 (t3.jn x2 hv h.2.2.2.1)
  · have e2 : (skR T L rr).1 ≠ -1 := by rw [skR_1]; exact e1
    obtain ⟨a', x1⟩ := h2.2.2 e2
    rw [skR_1] at x1
    by_cases e0 : mem 7 2 = -1
    · refine COM.ok e0 ⟨hvb, fun q => absurd ((h.2.2.2.2.2.1 e0 e1).symm.trans q) e1, fun _ => ⟨a', ?_⟩⟩
      rw [h.2.2.2.2.2.1 e0 e1]; exact x1
    · exact COM.er hvb e0 ⟨a', by rw [← h.2.2.2.2.1 e0]; exact x1⟩
theorem CLP.bad {T : Int → Int} {L : Int} {un tg : Int → PR} {mem mm : Int → Int → Int} {k : Nat} {rr : PR} {cs : List Int} {s al v : Int} (h : CLP T L un tg mem mm k rr cs s al) (e1 : rr.1 ≠ -1) (hvb : -2147483648 ≤ v ∧ v ≤ 2147483647) : COM mem mm tg v := by
  obtain ⟨a', x1⟩ := h.1.2.2 e1
  by_cases e0 : mem 7 2 = -1
  · refine COM.ok e0 ⟨hvb, fun q => absurd ((h.2.2.2.2.2.1 e0 e1).symm.trans q) e1, fun _ => ⟨a', ?_⟩⟩
    rw [h.2.2.2.2.2.1 e0 e1]; exact x1
  · exact COM.er hvb e0 ⟨a', by rw [← h.2.2.2.2.1 e0]; exact x1⟩
theorem fand_01 {a b : Int} (ha : a = 0 ∨ a = 1) (hb : b = 0 ∨ b = 1) : fand a b = bothV 38 a b := by rcases ha with rfl | rfl <;> rcases hb with rfl | rfl <;> decide
theorem fior_01 {a b : Int} (ha : a = 0 ∨ a = 1) (hb : b = 0 ∨ b = 1) : fior a b = bothV 124 a b := by rcases ha with rfl | rfl <;> rcases hb with rfl | rfl <;> decide
theorem look_twice {mem m : Int → Int → Int} {T : Int → Int} {L v0 : Int} (hq : v0 = nsV T L (mem 7 1) (mem 7 2) ∧ m = upR mem (nsA T L (mem 7 1) (mem 7 2)) (mem 7 2)) : upR m (nsA T L (m 7 1) (m 7 2)) (m 7 2) = m := by
  by_cases hw : mem 7 2 = -1
  · obtain ⟨a1, a2, a3, a4⟩ := look_ok hq hw
    rw [a3, a4, nsA_in, skp_skp, a2, upR_up]
  · obtain ⟨a1, rfl⟩ := look_no hq hw
    rw [nsA_no hw]
    exact (upR_me m).symm
theorem and_w {x a b : Int} (ha : a = 0 ∨ a = 1) (hb : b = 0 ∨ b = 1) (hx : x = bothV 38 a b) : (x = 1 ∧ a ≠ 0 ∧ b ≠ 0) ∨ (x = 0 ∧ (a = 0 ∨ b = 0)) := by
  rw [hx]
  rcases ha with rfl | rfl <;> rcases hb with rfl | rfl <;> decide
theorem or_w {x a b : Int} (ha : a = 0 ∨ a = 1) (hb : b = 0 ∨ b = 1) (hx : (x = 1 ∧ (a ≠ 0 ∨ b ≠ 0)) ∨ (x = 0 ∧ a = 0 ∧ b = 0)) : x = bothV 124 a b := by
  rcases ha with rfl | rfl <;> rcases hb with rfl | rfl <;> rcases hx with ⟨rfl, h⟩ | ⟨rfl, h⟩ <;> first | (exfalso; omega) | decide
set_option maxHeartbeats 4000000 in
set_option maxRecDepth 100000 in
theorem c_X5_negO {l : Launch} {g : GP} (hG : GH g) {kd : Int → Nat} {ln : Int → Int} {mem : Int → Int → Int} {sz : Nat} (d : Int) (t : Int) (r : Int) (T : Int → Int) (L : Int) (hRD : RDX kd ln t r T L mem) (u : Nat) (hEB : EB mem) (ha : mem 7 2 = -1 → 0 ≤ mem 7 1 ∧ mem 7 1 ≤ L) (hw : InI (mem 7 2)) (hu : (u : Int) = 6 - d) (hcal : ∀ (mem : Int → Int → Int) (d : Int), STT kd ln t r T L mem → (u : Int) = 6 - d → MT l g yX5_unit cX5_unit 7 (some .boolean) (3 * u + 6) 0 0 [(2, 7), (0, d)] kd ln mem sz (pMR 0 (fun v mem' => ((v = 0 ∨ v = 1) ∧ COM mem mem' (unitP T L u) v)) kd ln sz)) (h_d : InI d) : MT l g yX5_negated cX5_negated 2 (some .boolean) (3 * u + 7) 0 0 [(2, 7), (0, d)] kd ln mem sz (pMR 0 (fun v mem' => ((v = 0 ∨ v = 1) ∧ ∃ v1 : Int, (v1 = 0 ∨ v1 = 1) ∧ v = notV v1 ∧ COM mem mem' (unitP T L u) v1)) kd ln sz) := by
  refine MT_of hG (by decide +kernel) (Nat.le_of_ble_eq_true rfl) (fun z hF hr hn => ?_)
  have ⟨r1, r2, r3, r4, r5, r6, r7, r8, r9, r10, r11, r12, r13⟩ := hRD
  have ha9 : mem 7 2 = -1 → 0 ≤ mem 7 1 ∧ mem 7 1 ≤ L + 1 := by omega
  have hST0 : STT kd ln t r T L mem := ⟨hRD, hEB, ha, hw⟩
  have hLb := hST0.L
  refine jblk hF [(.aload_n 0, 1), (.iload_n 1, 1)] (by decide +kernel) (pc' := 2) (lo' := [(0, (2, 7)), (1, (0, d))]) (st' := [(0, d), (2, 7)]) rfl ?_
  refine jcallV hF (hcal mem d (by exact hST0) (by omega)) MW_X5_unit 6 (by decide) (by first | assumption | omega) wd_650 wd_652 wd_p16 (by decide +kernel) [] rfl rfl (rmI (by omega) (by decide)) (Nat.le_of_ble_eq_true rfl) ⟨Nat.le_of_ble_eq_true rfl, Nat.le_of_ble_eq_true rfl⟩ (kMR (fun v_3 m_1 h_2 => ?_))
  have hU := h_2
  have hU1 := hU.1
  refine jif_ne hF (off := 7) 12 (by decide +kernel) (by decide) (by omega) (fun h_4 => ?_) (fun h_4 => ?_)
  · refine jblk hF [(.iconst 0, 1)] (by decide +kernel) (pc' := 13) (lo' := [(0, (2, 7)), (1, (0, d))]) (st' := [(0, 0)]) rfl ?_
    refine jzret hF hr (by omega) (by decide +kernel) ?_
    exact lMR (by exact ⟨by omega, _, hU1, by unfold notV; first | exact (if_pos (by omega)).symm | exact (if_neg (by omega)).symm, hU.2⟩)
  · refine jblk hF [(.iconst 1, 1)] (by decide +kernel) (pc' := 9) (lo' := [(0, (2, 7)), (1, (0, d))]) (st' := [(0, 1)]) rfl ?_
    refine jgoto hF (off := 4) 13 (by decide +kernel) (by decide) ?_
    refine jzret hF hr (by omega) (by decide +kernel) ?_
    exact lMR (by exact ⟨by omega, _, hU1, by unfold notV; first | exact (if_pos (by omega)).symm | exact (if_neg (by omega)).symm, hU.2⟩)
set_option maxHeartbeats 4000000 in
set_option maxRecDepth 100000 in
theorem c_X5_parO {l : Launch} {g : GP} (hG : GH g) {kd : Int → Nat} {ln : Int → Int} {mem : Int → Int → Int} {sz : Nat} (d : Int) (t : Int) (r : Int) (T : Int → Int) (L : Int) (hRD : RDX kd ln t r T L mem) (u : Nat) (hEB : EB mem) (ha : mem 7 2 = -1 → 0 ≤ mem 7 1 ∧ mem 7 1 ≤ L) (hw : InI (mem 7 2)) (hu : (u : Int) = 6 - d) (h40 : nsV T L (mem 7 1) (mem 7 2) = 40) (hcal : ∀ (mem : Int → Int → Int) (d : Int), STT kd ln t r T L mem → (u : Int) = 6 - d → MT l g yX5_condition cX5_condition 6 (some .boolean) (3 * u + 7) 0 0 [(2, 7), (0, d)] kd ln mem sz (pMR 0 (fun v mem' => ((v = 0 ∨ v = 1) ∧ COM mem mem' (condP T L u) v)) kd ln sz)) (h_d : InI d) : MT l g yX5_parenthesised cX5_parenthesised 3 (some .boolean) (3 * u + 8) 0 0 [(2, 7), (0, d)] kd ln mem sz (pMR 0 (fun v mem' => ((v = 0 ∨ v = 1) ∧ ∃ m2 m3 : Int → Int → Int, m2 = upR mem (nsA T L (mem 7 1) (mem 7 2) + 1) (mem 7 2) ∧ COM m2 m3 (condP T L u) v ∧ mem' = (if nsV T L (m3 7 1) (m3 7 2) = 41 then upR m3 (nsA T L (m3 7 1) (m3 7 2) + 1) (m3 7 2) else upR m3 (nsA T L (m3 7 1) (m3 7 2) + 1) (rfW L (nsA T L (m3 7 1) (m3 7 2)) (m3 7 2))))) kd ln sz) := by
  refine MT_of hG (by decide +kernel) (Nat.le_of_ble_eq_true rfl) (fun z hF hr hn => ?_)
  have ⟨r1, r2, r3, r4, r5, r6, r7, r8, r9, r10, r11, r12, r13⟩ := hRD
  have ha9 : mem 7 2 = -1 → 0 ≤ mem 7 1 ∧ mem 7 1 ≤ L + 1 := by omega
  have hST0 : STT kd ln t r T L mem := ⟨hRD, hEB, ha, hw⟩
  have hLb := hST0.L
  refine jblk hF [(.aload_n 0, 1), (.bipush 40, 2)] (by decide +kernel) (pc' := 3) (lo' := [(0, (2, 7)), (1, (0, d))]) (st' := [(0, 40), (2, 7)]) rfl ?_
  refine jcallV hF (c_X5_demand hG 40 (by exact t) (by exact r) (by exact T) (by exact L) (by assumption) (by omega) (by omega) (by decide)) MW_X5_demand 6 (by decide) (by first | assumption | omega) wd_591 wd_593 wd_p8 (by decide +kernel) [] rfl rfl (rmI (by omega) (by decide)) (Nat.le_of_ble_eq_true rfl) ⟨Nat.le_of_ble_eq_true rfl, Nat.le_of_ble_eq_true rfl⟩ (kMV (fun m_1 h_2 => ?_))
  have hd := h_2
  have h5 := hd.trans (if_pos h40)
  have hST6 := met_st hST0 (by omega) h5
  refine jblk hF [(.aload_n 0, 1), (.iload_n 1, 1)] (by decide +kernel) (pc' := 8) (lo' := [(0, (2, 7)), (1, (0, d))]) (st' := [(0, d), (2, 7)]) rfl ?_
  refine jcallV hF (hcal m_1 d (by exact hST6) (by omega)) MW_X5_condition 6 (by decide) (by first | assumption | omega) wd_646 wd_648 wd_p15 (by decide +kernel) [] rfl rfl (rmI (by omega) (by decide)) (Nat.le_of_ble_eq_true rfl) ⟨Nat.le_of_ble_eq_true rfl, Nat.le_of_ble_eq_true rfl⟩ (kMR (fun v_5 m_3 h_4 => ?_))
  have hU := h_4
  have hU1 := hU.1
  have hST7 := hU.2.st hST6 (condP_gd T L u)
  have hRDx7 := hST7.1
  have hax7 := hST7.2.2.1
  have hwx7 := hST7.2.2.2
  refine jblk hF [(.istore_n 2, 1), (.aload_n 0, 1), (.bipush 41, 2)] (by decide +kernel) (pc' := 15) (lo' := [(2, (0, v_5)), (0, (2, 7)), (1, (0, d))]) (st' := [(0, 41), (2, 7)]) rfl ?_
  refine jcallV hF (c_X5_demand hG 41 (by exact t) (by exact r) (by exact T) (by exact L) (by assumption) (by omega) (by omega) (by decide)) MW_X5_demand 6 (by decide) (by first | assumption | omega) wd_591 wd_593 wd_p8 (by decide +kernel) [] rfl rfl (rmI (by omega) (by decide)) (Nat.le_of_ble_eq_true rfl) ⟨Nat.le_of_ble_eq_true rfl, Nat.le_of_ble_eq_true rfl⟩ (kMV (fun m_6 h_7 => ?_))
  have h6 := h_7
  refine jblk hF [(.iload_n 2, 1)] (by decide +kernel) (pc' := 19) (lo' := [(2, (0, v_5)), (0, (2, 7)), (1, (0, d))]) (st' := [(0, v_5)]) rfl ?_
  refine jzret hF hr (by omega) (by decide +kernel) ?_
  exact lMR (by exact ⟨hU1, _, _, h5, hU.2, h6⟩)
set_option maxHeartbeats 4000000 in
set_option maxRecDepth 100000 in
theorem c_X5_unitO {l : Launch} {g : GP} (hG : GH g) {kd : Int → Nat} {ln : Int → Int} {mem : Int → Int → Int} {sz : Nat} (d : Int) (t : Int) (r : Int) (T : Int → Int) (L : Int) (hRD : RDX kd ln t r T L mem) (u : Nat) (hEB : EB mem) (ha : mem 7 2 = -1 → 0 ≤ mem 7 1 ∧ mem 7 1 ≤ L) (hw : InI (mem 7 2)) (hu : (u : Int) = 6 - d) (hu6 : u ≤ 6) (hun : ∀ (u2 : Nat) (mem : Int → Int → Int) (d : Int), u = u2 + 1 → STT kd ln t r T L mem → (u2 : Int) = 6 - d → MT l g yX5_unit cX5_unit 7 (some .boolean) (3 * u2 + 6) 0 0 [(2, 7), (0, d)] kd ln mem sz (pMR 0 (fun v mem' => ((v = 0 ∨ v = 1) ∧ COM mem mem' (unitP T L u2) v)) kd ln sz)) (hco : ∀ (u2 : Nat) (mem : Int → Int → Int) (d : Int), u = u2 + 1 → STT kd ln t r T L mem → (u2 : Int) = 6 - d → MT l g yX5_condition cX5_condition 6 (some .boolean) (3 * u2 + 7) 0 0 [(2, 7), (0, d)] kd ln mem sz (pMR 0 (fun v mem' => ((v = 0 ∨ v = 1) ∧ COM mem mem' (condP T L u2) v)) kd ln sz)) (h_d : InI d) : MT l g yX5_unit cX5_unit 7 (some .boolean) (3 * u + 6) 0 0 [(2, 7), (0, d)] kd ln mem sz (pMR 0 (fun v mem' => ((v = 0 ∨ v = 1) ∧ COM mem mem' (unitP T L u) v)) kd ln sz) := by
  refine MT_of hG (by decide +kernel) (Nat.le_of_ble_eq_true rfl) (fun z hF hr hn => ?_)
  have ⟨r1, r2, r3, r4, r5, r6, r7, r8, r9, r10, r11, r12, r13⟩ := hRD
  have ha9 : mem 7 2 = -1 → 0 ≤ mem 7 1 ∧ mem 7 1 ≤ L + 1 := by omega
  have hST0 : STT kd ln t r T L mem := ⟨hRD, hEB, ha, hw⟩
  have hLb := hST0.L
  refine jblk hF [(.aload_n 0, 1)] (by decide +kernel) (pc' := 1) (lo' := [(0, (2, 7)), (1, (0, d))]) (st' := [(2, 7)]) rfl ?_
  refine jcallV hF (c_X5_nextSign hG (by exact t) (by exact r) (by exact T) (by exact L) (by assumption) (by omega) (by omega)) MW_X5_nextSign 6 (by decide) (by first | assumption | omega) wd_580 wd_582 wd_p6 (by decide +kernel) [] rfl rfl (rmI (by omega) (by decide)) (Nat.le_of_ble_eq_true rfl) ⟨Nat.le_of_ble_eq_true rfl, Nat.le_of_ble_eq_true rfl⟩ (kMR (fun v_3 m_1 h_2 => ?_))
  have hq := h_2
  obtain ⟨v0, hv0⟩ : ∃ q : Int, q = v_3 := ⟨_, rfl⟩
  have hST1 := nS_st hST0 hq.2
  have hnv := nsV_bd hRD ha9
  have hvb : -2 ≤ v_3 ∧ v_3 ≤ 255 := by rw [hq.1]; exact hnv
  have hRDx1 := hST1.1
  have hax1 := hST1.2.2.1
  have hwx1 := hST1.2.2.2
  refine jcallS hF (c_X5_opensUnit hG v_3 (by omega)) MW_X5_opensUnit wd_599 wd_600 (by decide +kernel) [] rfl rfl (rmI (by omega) (by decide)) (Nat.le_of_ble_eq_true rfl) ⟨Nat.le_of_ble_eq_true rfl, Nat.le_of_ble_eq_true rfl⟩ (kB (fun h_4 => ?_) (fun h_4 => ?_))
  · refine jif_ne hF (off := 31) 38 (by decide +kernel) (by decide) (by decide) (fun _ => ?_) (fun h => absurd h (by decide))
    refine jblk hF [(.iload_n 1, 1), (.bipush 6, 2)] (by decide +kernel) (pc' := 41) (lo' := [(0, (2, 7)), (1, (0, d))]) (st' := [(0, 6), (0, d)]) rfl ?_
    refine jicmp_lt hF (off := 9) 50 (by decide +kernel) (by decide) (by omega) (by decide) (fun h_6 => ?_) (fun h_6 => ?_)
    · refine jblk hF [(.aload_n 0, 1), (.bipush 33, 2)] (by decide +kernel) (pc' := 53) (lo' := [(0, (2, 7)), (1, (0, d))]) (st' := [(0, 33), (2, 7)]) rfl ?_
      refine jcallV hF (c_X5_accepts hG 33 (by exact t) (by exact r) (by exact T) (by exact L) (by assumption) (by omega) (by omega) (by decide)) MW_X5_accepts 6 (by decide) (by first | assumption | omega) wd_622 wd_624 wd_p14 (by decide +kernel) [] rfl rfl (rmI (by omega) (by decide)) (Nat.le_of_ble_eq_true rfl) ⟨Nat.le_of_ble_eq_true rfl, Nat.le_of_ble_eq_true rfl⟩ (kMB (fun m_7 h_8 => ?_) (fun m_7 h_8 => ?_))
      · have h_8_ := h_8
        have hA := h_8
        refine jif_eq hF (off := 13) 69 (by decide +kernel) (by decide) (by decide) (fun h => absurd h (by decide)) (fun _ => ?_)
        have t1 := hA.1.mp trivial
        have lm := look_met hq (by omega)
        have h5 := hA.2.trans (if_pos t1)
        have hST4 := met_st hST1 (by omega) h5
        refine jblk hF [(.aload_n 0, 1), (.iload_n 1, 1), (.iconst 1, 1), (.iadd, 1)] (by decide +kernel) (pc' := 63) (lo' := [(0, (2, 7)), (1, (0, d))]) (st' := [(0, d + 1), (2, 7)]) rfl ?_
        refine jcallV hF (c_X5_negO hG (d + 1) t r T L hST4.1 (u - 1) hST4.2.1 hST4.2.2.1 hST4.2.2.2 (by omega) (fun m2 d2 h2 e2 => hun (u - 1) m2 d2 (by omega) h2 e2) ⟨by omega, by omega⟩) MW_X5_negated 6 (by decide) (by first | assumption | omega) wd_661 wd_663 wd_p18 (by decide +kernel) [] rfl rfl (rmI (by omega) (by decide)) (Nat.le_of_ble_eq_true rfl) ⟨Nat.le_of_ble_eq_true rfl, Nat.le_of_ble_eq_true rfl⟩ (kMR (fun v_12 m_10 h_11 => ?_))
        have hN := h_11
        obtain ⟨v1x, hv1x, hvn, hU2⟩ := hN.2
        have hN1 := hN.1
        refine jgoto hF (off := 10) 76 (by decide +kernel) (by decide) ?_
        refine jzret hF hr (by omega) (by decide +kernel) ?_
        exact lMR (by first | exact ⟨hN1, unit_not hq (by omega) h5 (by omega) hU2 hvn (by omega)⟩ | exact ⟨hP1, unit_par hq ha (by omega) (by omega) hp5 (by omega) hpC hp6⟩)
      · have h_8_ := h_8
        have hA := h_8
        refine jif_eq hF (off := 13) 69 (by decide +kernel) (by decide) (by decide) (fun _ => ?_) (fun h => absurd h (by decide))
        have t0 := fun q => hA.1.mpr q
        have lm := look_met hq (by omega)
        have e75 := hA.2.trans (if_neg t0)
        rw [look_twice hq] at e75
        have t2 : ¬ v0 = 33 := fun q => t0 (lm.1.trans (hv0.symm.trans q))
        have hST5 : STT kd ln t r T L m_7 := by rw [e75]; exact hST1
        have hRDx5 := hST5.1
        have hax5 := hST5.2.2.1
        have hwx5 := hST5.2.2.2
        refine jblk hF [(.aload_n 0, 1), (.iload_n 1, 1), (.iconst 1, 1), (.iadd, 1)] (by decide +kernel) (pc' := 73) (lo' := [(0, (2, 7)), (1, (0, d))]) (st' := [(0, d + 1), (2, 7)]) rfl ?_
        refine jcallV hF (c_X5_parO hG (d + 1) t r T L hST5.1 (u - 1) hST5.2.1 hST5.2.2.1 hST5.2.2.2 (by omega) (by rw [e75]; omega) (fun m2 d2 h2 e2 => hco (u - 1) m2 d2 (by omega) h2 e2) ⟨by omega, by omega⟩) MW_X5_parenthesised 6 (by decide) (by first | assumption | omega) wd_665 wd_667 wd_p19 (by decide +kernel) [] rfl rfl (rmI (by omega) (by decide)) (Nat.le_of_ble_eq_true rfl) ⟨Nat.le_of_ble_eq_true rfl, Nat.le_of_ble_eq_true rfl⟩ (kMR (fun v_16 m_14 h_15 => ?_))
        have hP := h_15
        obtain ⟨p2, p3, hp5, hpC, hp6⟩ := hP.2
        have hP1 := hP.1
        rw [e75] at hp5
        refine jzret hF hr (by omega) (by decide +kernel) ?_
        exact lMR (by first | exact ⟨hN1, unit_not hq (by omega) h5 (by omega) hU2 hvn (by omega)⟩ | exact ⟨hP1, unit_par hq ha (by omega) (by omega) hp5 (by omega) hpC hp6⟩)
    · refine jblk hF [(.aload_n 0, 1)] (by decide +kernel) (pc' := 45) (lo' := [(0, (2, 7)), (1, (0, d))]) (st' := [(2, 7)]) rfl ?_
      refine jcallV hF (c_X5_refuse hG (by exact t) (by exact r) (by exact T) (by exact L) (by assumption) (by omega) (by omega)) MW_X5_refuse 6 (by decide) (by first | assumption | omega) wd_587 wd_589 wd_p7 (by decide +kernel) [] rfl rfl (rmI (by omega) (by decide)) (Nat.le_of_ble_eq_true rfl) ⟨Nat.le_of_ble_eq_true rfl, Nat.le_of_ble_eq_true rfl⟩ (kMV (fun m_17 h_18 => ?_))
      have hq5 := h_18
      refine jblk hF [(.iconst 0, 1)] (by decide +kernel) (pc' := 49) (lo' := [(0, (2, 7)), (1, (0, d))]) (st' := [(0, 0)]) rfl ?_
      refine jzret hF hr (by omega) (by decide +kernel) ?_
      exact lMR (by (obtain rfl : u = 0 := by omega); exact ⟨by omega, unit_ref hq (by omega) ha hq5⟩)
  · refine jif_ne hF (off := 31) 38 (by decide +kernel) (by decide) (by decide) (fun h => absurd h (by decide)) (fun _ => ?_)
    refine jblk hF [(.aload_n 0, 1), (.iload_n 1, 1)] (by decide +kernel) (pc' := 12) (lo' := [(0, (2, 7)), (1, (0, d))]) (st' := [(0, d), (2, 7)]) rfl ?_
    refine jcallV hF (c_X5_sumA hG t r T L u (by omega) m_1 d (by exact hST1.1) (by exact hST1.2.1) (by exact hST1.2.2.1) (by exact hST1.2.2.2) (by omega)) MW_X5_sum 6 (by decide) (by first | assumption | omega) wd_602 wd_604 wd_p10 (by decide +kernel) [] rfl rfl (rmI (by omega) (by decide)) (Nat.le_of_ble_eq_true rfl) ⟨Nat.le_of_ble_eq_true rfl, Nat.le_of_ble_eq_true rfl⟩ (kMR (fun v_22 m_20 h_21 => ?_))
    have hC1 := h_21
    have hST2 := hC1.st hST1 (sumP_gd T L u)
    have hb1 := hC1.1
    have hRDx2 := hST2.1
    have hax2 := hST2.2.2.1
    have hwx2 := hST2.2.2.2
    refine jblk hF [(.lstore_n 2, 1), (.aload_n 0, 1)] (by decide +kernel) (pc' := 17) (lo' := [(2, (1, v_22)), (0, (2, 7)), (1, (0, d))]) (st' := [(2, 7)]) rfl ?_
    refine jcallV hF (c_X5_demandComparing hG (by exact t) (by exact r) (by exact T) (by exact L) (by assumption) (by omega) (by omega)) MW_X5_demandComparing 6 (by decide) (by first | assumption | omega) wd_654 wd_656 wd_p17 (by decide +kernel) [] rfl rfl (rmI (by omega) (by decide)) (Nat.le_of_ble_eq_true rfl) ⟨Nat.le_of_ble_eq_true rfl, Nat.le_of_ble_eq_true rfl⟩ (kMR (fun v_25 m_23 h_24 => ?_))
    have hD := h_24
    have hsb : -2 ≤ v_25 ∧ v_25 ≤ 255 := by rw [hD.1]; exact nsV_bd hST2.1 (fun q => by have := hST2.2.2.1 q; omega)
    have hST3 := dem_st hST2 (fun q => by omega) (fun q => hD.2.trans (if_pos q)) (fun q => hD.2.trans (if_neg q))
    refine jblk hF [(.istore 4, 2), (.aload_n 0, 1), (.iload_n 1, 1)] (by decide +kernel) (pc' := 24) (lo' := [(4, (0, v_25)), (2, (1, v_22)), (0, (2, 7)), (1, (0, d))]) (st' := [(0, d), (2, 7)]) rfl ?_
    refine jcallV hF (c_X5_sumA hG t r T L u (by omega) m_23 d (by exact hST3.1) (by exact hST3.2.1) (by exact hST3.2.2.1) (by exact hST3.2.2.2) (by omega)) MW_X5_sum 6 (by decide) (by first | assumption | omega) wd_602 wd_604 wd_p10 (by decide +kernel) [] rfl rfl (rmI (by omega) (by decide)) (Nat.le_of_ble_eq_true rfl) ⟨Nat.le_of_ble_eq_true rfl, Nat.le_of_ble_eq_true rfl⟩ (kMR (fun v_28 m_26 h_27 => ?_))
    have hC2 := h_27
    have hb2 := hC2.1
    refine jblk hF [(.lstore 5, 2), (.lload_n 2, 1), (.iload 4, 2), (.lload 5, 2)] (by decide +kernel) (pc' := 34) (lo' := [(5, (1, v_28)), (4, (0, v_25)), (2, (1, v_22)), (0, (2, 7)), (1, (0, d))]) (st' := [(1, v_28), (0, v_25), (1, v_22)]) rfl ?_
    refine jcallS hF (c_X5_compared hG v_22 v_25 v_28 (by omega) (by omega) (by omega)) MW_X5_compared wd_658 wd_659 (by decide +kernel) [] rfl rfl (rmI (by omega) (by decide)) (Nat.le_of_ble_eq_true rfl) ⟨Nat.le_of_ble_eq_true rfl, Nat.le_of_ble_eq_true rfl⟩ (kB (fun h_29 => ?_) (fun h_29 => ?_))
    · refine jzret hF hr (by omega) (by decide +kernel) ?_
      exact lMR (by exact ⟨by omega, unit_cmp hq (by omega) ha hC1 hD hC2 Iff.rfl (by first | exact Or.inl ⟨rfl, by assumption⟩ | exact Or.inr ⟨rfl, by assumption⟩)⟩)
    · refine jzret hF hr (by omega) (by decide +kernel) ?_
      exact lMR (by exact ⟨by omega, unit_cmp hq (by omega) ha hC1 hD hC2 Iff.rfl (by first | exact Or.inl ⟨rfl, by assumption⟩ | exact Or.inr ⟨rfl, by assumption⟩)⟩)
set_option maxHeartbeats 4000000 in
set_option maxRecDepth 100000 in
theorem c_X5_condO {l : Launch} {g : GP} (hG : GH g) {kd : Int → Nat} {ln : Int → Int} {mem : Int → Int → Int} {sz : Nat} (d : Int) (t : Int) (r : Int) (T : Int → Int) (L : Int) (hRD : RDX kd ln t r T L mem) (u : Nat) (hEB : EB mem) (ha : mem 7 2 = -1 → 0 ≤ mem 7 1 ∧ mem 7 1 ≤ L) (hw : InI (mem 7 2)) (hu : (u : Int) = 6 - d) (hcal : ∀ (mem : Int → Int → Int) (d : Int), STT kd ln t r T L mem → (u : Int) = 6 - d → MT l g yX5_unit cX5_unit 7 (some .boolean) (3 * u + 6) 0 0 [(2, 7), (0, d)] kd ln mem sz (pMR 0 (fun v mem' => ((v = 0 ∨ v = 1) ∧ COM mem mem' (unitP T L u) v)) kd ln sz)) (h_d : InI d) : MT l g yX5_condition cX5_condition 6 (some .boolean) (3 * u + 7) 0 0 [(2, 7), (0, d)] kd ln mem sz (pMR 0 (fun v mem' => ((v = 0 ∨ v = 1) ∧ COM mem mem' (condP T L u) v)) kd ln sz) := by
  refine MT_of hG (by decide +kernel) (Nat.le_of_ble_eq_true rfl) (fun z hF hr hn => ?_)
  have ⟨r1, r2, r3, r4, r5, r6, r7, r8, r9, r10, r11, r12, r13⟩ := hRD
  have ha9 : mem 7 2 = -1 → 0 ≤ mem 7 1 ∧ mem 7 1 ≤ L + 1 := by omega
  have hST0 : STT kd ln t r T L mem := ⟨hRD, hEB, ha, hw⟩
  have hLb := hST0.L
  refine jblk hF [(.iconst 0, 1), (.istore_n 2, 1), (.aload_n 0, 1), (.iload_n 1, 1)] (by decide +kernel) (pc' := 4) (lo' := [(2, (0, 0)), (0, (2, 7)), (1, (0, d))]) (st' := [(0, d), (2, 7)]) rfl ?_
  refine jcallV hF (hcal mem d (by exact hST0) (by omega)) MW_X5_unit 6 (by decide) (by first | assumption | omega) wd_650 wd_652 wd_p16 (by decide +kernel) [] rfl rfl (rmI (by omega) (by decide)) (Nat.le_of_ble_eq_true rfl) ⟨Nat.le_of_ble_eq_true rfl, Nat.le_of_ble_eq_true rfl⟩ (kMR (fun v_3 m_1 h_2 => ?_))
  have hU0 := h_2
  have hL0 := CLP.start hU0.2 hU0.1 (fun a h0 h1 => condP_fl (by omega) h0 h1) (unitP_gd T L u) ha hw (by omega)
  have hP0 : (frA mem (unitP T L u)).1 = -1 → 0 < (frA mem (unitP T L u)).2.1 := fun q => by have e0 := hL0.ok0 q; rw [frA_in e0] at q ⊢; have hb := ha e0; have hg := ((unitP_gd T L u _ hb.1 hb.2).1 q).1; omega
  refine jblk hF [(.istore_n 3, 1), (.iconst 0, 1), (.istore 4, 2)] (by decide +kernel) (pc' := 11) (lo' := [(4, (0, 0)), (3, (0, v_3)), (2, (0, 0)), (0, (2, 7)), (1, (0, d))]) (st' := []) rfl ?_
  have L_5 : ∀ (fu_6 : Nat) (s : Int) (al : Int) (i : Int) (m3 : Int → Int → Int) (rr : PR) (k : Nat) (cs : List Int), (CLP T L (unitP T L u) (condP T L u) mem m3 k rr cs s al) → (0 ≤ i ∧ i ≤ L + 1 ∧ (rr.1 = -1 → i < rr.2.1)) →  (L + 2 - i).toNat < fu_6 → J z g 6 0 0 (QM z g 0 0 (pMR 0 (fun v mem' => ((v = 0 ∨ v = 1) ∧ COM mem mem' (condP T L u) v)) kd ln sz)) 11 [(0, (2, 7)), (1, (0, d)), (2, (0, s)), (3, (0, al)), (4, (0, i))] [] kd ln m3 sz := by
    intro fu_6
    induction fu_6 with
    | zero => intro s al i m3 rr k cs _ _ hm; omega
    | succ fu_6 ih_4 =>
      intro s al i m3 rr k cs hlp hi hm
      have hrb := hlp.2.1
      have hRDm := hlp.1.rd hRD
      have ⟨n1, n2, n3, n4, n5, n6, n7, n8, n9, n10, n11, n12, n13⟩ := hRDm
      have kt2 : kd (m3 7 0) = 12 := by rw [n2]; exact n3
      have kr2 : kd (m3 (m3 7 0) 0) = 20 := by rw [n2, n5]; exact n7
      have kL2 : m3 (m3 7 0) 1 = L := by rw [n2]; exact n6
      have kT2 : m3 (m3 (m3 7 0) 0) = T := by rw [n2, n5]; exact n9
      have kn2 : ln (m3 (m3 7 0) 0) = ln r := by rw [n2, n5]
      have kg2 : 3 ≤ m3 7 0 ∧ 3 ≤ m3 (m3 7 0) 0 := by rw [n2, n5]; omega
      have hwm := hlp.1.wI hrb
      have ham := hlp.1.aB hrb
      have hs3 := hlp.2.2.1
      have hs4 := hlp.2.2.2.1
      refine jblk hF [(.iload 4, 2), (.aload_n 0, 1)] (by decide +kernel) (pc' := 14) (lo' := [(0, (2, 7)), (1, (0, d)), (2, (0, s)), (3, (0, al)), (4, (0, i))]) (st' := [(2, 7), (0, i)]) rfl ?_
      refine jget hF 6 0 2 0 rfl (by decide) (by decide) rfl wd_170 (by decide +kernel) (by first | assumption | omega) ?_
      refine jget hF 11 1 0 1 rfl (by decide) (by decide) rfl wd_150 (by decide +kernel) (by first | assumption | omega) ?_
      refine jicmp_gt hF (off := 72) 92 (by decide +kernel) (by decide) (by omega) (by omega) (fun h_7 => ?_) (fun h_7 => ?_)
      · refine jblk hF [(.iload_n 2, 1)] (by decide +kernel) (pc' := 93) (lo' := [(0, (2, 7)), (1, (0, d)), (2, (0, s)), (3, (0, al)), (4, (0, i))]) (st' := [(0, s)]) rfl ?_
        refine jif_ne hF (off := 7) 100 (by decide +kernel) (by decide) (by omega) (fun h_8 => ?_) (fun h_8 => ?_)
        · refine jblk hF [(.iconst 1, 1)] (by decide +kernel) (pc' := 101) (lo' := [(0, (2, 7)), (1, (0, d)), (2, (0, s)), (3, (0, al)), (4, (0, i))]) (st' := [(0, 1)]) rfl ?_
          refine jgoto hF (off := 4) 105 (by decide +kernel) (by decide) ?_
          refine jzret hF hr (by omega) (by decide +kernel) ?_
          exact lMR (by first | exact ⟨by omega, hlp.bad (fun q1 => by have g1 := hi.2.2 q1; have g2 := (hrb.2 q1).2; omega) (by omega)⟩ | exact ⟨by omega, hlp.out (by have f9 := f1.miss (hs2.2.trans (if_neg (fun q1 => hs2.1.mpr q1))); rw [skR_sk] at f9; exact f9) (fun q1 => ⟨fun z0 => hs1.1.mpr ((hlp.1.nV q1).trans z0), fun z0 => hs2.1.mpr ((f1.nV2 q1).trans z0)⟩) (by rcases hlp.2.2.1 with y | y <;> rcases hlp.2.2.2.1 with z | z <;> first | (exfalso; omega) | (rw [y, z]; decide)) (by omega)⟩)
        · refine jblk hF [(.iload_n 3, 1)] (by decide +kernel) (pc' := 97) (lo' := [(0, (2, 7)), (1, (0, d)), (2, (0, s)), (3, (0, al)), (4, (0, i))]) (st' := [(0, al)]) rfl ?_
          refine jif_eq hF (off := 7) 104 (by decide +kernel) (by decide) (by omega) (fun h_9 => ?_) (fun h_9 => ?_)
          · refine jblk hF [(.iconst 0, 1)] (by decide +kernel) (pc' := 105) (lo' := [(0, (2, 7)), (1, (0, d)), (2, (0, s)), (3, (0, al)), (4, (0, i))]) (st' := [(0, 0)]) rfl ?_
            refine jzret hF hr (by omega) (by decide +kernel) ?_
            exact lMR (by first | exact ⟨by omega, hlp.bad (fun q1 => by have g1 := hi.2.2 q1; have g2 := (hrb.2 q1).2; omega) (by omega)⟩ | exact ⟨by omega, hlp.out (by have f9 := f1.miss (hs2.2.trans (if_neg (fun q1 => hs2.1.mpr q1))); rw [skR_sk] at f9; exact f9) (fun q1 => ⟨fun z0 => hs1.1.mpr ((hlp.1.nV q1).trans z0), fun z0 => hs2.1.mpr ((f1.nV2 q1).trans z0)⟩) (by rcases hlp.2.2.1 with y | y <;> rcases hlp.2.2.2.1 with z | z <;> first | (exfalso; omega) | (rw [y, z]; decide)) (by omega)⟩)
          · refine jblk hF [(.iconst 1, 1)] (by decide +kernel) (pc' := 101) (lo' := [(0, (2, 7)), (1, (0, d)), (2, (0, s)), (3, (0, al)), (4, (0, i))]) (st' := [(0, 1)]) rfl ?_
            refine jgoto hF (off := 4) 105 (by decide +kernel) (by decide) ?_
            refine jzret hF hr (by omega) (by decide +kernel) ?_
            exact lMR (by first | exact ⟨by omega, hlp.bad (fun q1 => by have g1 := hi.2.2 q1; have g2 := (hrb.2 q1).2; omega) (by omega)⟩ | exact ⟨by omega, hlp.out (by have f9 := f1.miss (hs2.2.trans (if_neg (fun q1 => hs2.1.mpr q1))); rw [skR_sk] at f9; exact f9) (fun q1 => ⟨fun z0 => hs1.1.mpr ((hlp.1.nV q1).trans z0), fun z0 => hs2.1.mpr ((f1.nV2 q1).trans z0)⟩) (by rcases hlp.2.2.1 with y | y <;> rcases hlp.2.2.2.1 with z | z <;> first | (exfalso; omega) | (rw [y, z]; decide)) (by omega)⟩)
      · refine jblk hF [(.aload_n 0, 1), (.bipush 38, 2)] (by decide +kernel) (pc' := 26) (lo' := [(0, (2, 7)), (1, (0, d)), (2, (0, s)), (3, (0, al)), (4, (0, i))]) (st' := [(0, 38), (2, 7)]) rfl ?_
        refine jcallV hF (c_X5_accepts hG 38 (by exact t) (by exact r) (by exact T) (by exact L) (by assumption) (by omega) (by omega) (by decide)) MW_X5_accepts 6 (by decide) (by first | assumption | omega) wd_622 wd_624 wd_p14 (by decide +kernel) [] rfl rfl (rmI (by omega) (by decide)) (Nat.le_of_ble_eq_true rfl) ⟨Nat.le_of_ble_eq_true rfl, Nat.le_of_ble_eq_true rfl⟩ (kMB (fun m_10 h_11 => ?_) (fun m_10 h_11 => ?_))
        · have h_11_ := h_11
          have hs1 := h_11
          refine jif_eq hF (off := 28) 57 (by decide +kernel) (by decide) (by decide) (fun h => absurd h (by decide)) (fun _ => ?_)
          have t1 := hs1.1.mp trivial
          have Y := hlp.met (by decide) (Or.inl hlp.1) t1 (hs1.2.trans (if_pos t1))
          have hSTa : STT kd ln t r T L m_10 := by rw [Y.2.2.1]; exact hST0.up (fun _ => ⟨Y.2.2.2.1, Y.2.2.2.2.1⟩) ⟨by decide, by decide⟩
          refine jblk hF [(.aload_n 0, 1), (.iload_n 1, 1)] (by decide +kernel) (pc' := 34) (lo' := [(0, (2, 7)), (1, (0, d)), (2, (0, s)), (3, (0, al)), (4, (0, i))]) (st' := [(0, d), (2, 7)]) rfl ?_
          refine jcallV hF (hcal m_10 d (by exact hSTa) (by omega)) MW_X5_unit 6 (by decide) (by first | assumption | omega) wd_650 wd_652 wd_p16 (by decide +kernel) [] rfl rfl (rmI (by omega) (by decide)) (Nat.le_of_ble_eq_true rfl) ⟨Nat.le_of_ble_eq_true rfl, Nat.le_of_ble_eq_true rfl⟩ (kMR (fun v_15 m_13 h_14 => ?_))
          have hU := h_14
          have hU1 := hU.1
          obtain ⟨x, hx⟩ : ∃ q : Int, q = bothV 38 al v_15 := ⟨_, rfl⟩
          have hxx := and_w hlp.2.2.2.1 hU.1 hx
          have Z := hlp.and (by omega) (unitP_gd T L u) Y hU.2 hU.1 hx
          obtain ⟨rr2, k2, cs2, hZ, hZ2⟩ : ∃ (rr2 : PR) (k2 : Nat) (cs2 : List Int), CLP T L (unitP T L u) (condP T L u) mem m_13 k2 rr2 cs2 s x ∧ (rr2.1 = -1 → i + 1 < rr2.2.1) := ⟨_, _, _, Z.1, fun q => by have z1 := Z.2 q; have z2 := hi.2.2 Y.1; omega⟩
          refine jblk hF [(.istore 5, 2), (.iload_n 3, 1)] (by decide +kernel) (pc' := 40) (lo' := [(5, (0, v_15)), (0, (2, 7)), (1, (0, d)), (2, (0, s)), (3, (0, al)), (4, (0, i))]) (st' := [(0, al)]) rfl ?_
          refine jif_eq hF (off := 12) 52 (by decide +kernel) (by decide) (by omega) (fun h_16 => ?_) (fun h_16 => ?_)
          · refine jblk hF [(.iconst 0, 1), (.istore_n 3, 1)] (by decide +kernel) (pc' := 54) (lo' := [(3, (0, 0)), (5, (0, v_15)), (0, (2, 7)), (1, (0, d)), (2, (0, s)), (4, (0, i))]) (st' := []) rfl ?_
            refine jgoto hF (off := 32) 86 (by decide +kernel) (by decide) ?_
            refine jblk hF [(.iinc 4 1, 3)] (by decide +kernel) (pc' := 89) (lo' := [(4, (0, i + 1)), (3, (0, 0)), (5, (0, v_15)), (0, (2, 7)), (1, (0, d)), (2, (0, s))]) (st' := []) rfl ?_
            refine jgoto hF (off := (-78)) 11 (by decide +kernel) (by decide) ?_
            refine jsub [3, 4, 5, 1, 0] rfl ?_
            refine ih_4 s 0 (i + 1) m_13 rr2 k2 cs2 ?_ ?_ ?_
            · first | exact hZ | (obtain rfl : x = 1 := (by omega); exact hZ) | (obtain rfl : x = 0 := (by omega); exact hZ)
            · exact ⟨by omega, by omega, hZ2⟩
            · omega
          · refine jblk hF [(.iload 5, 2)] (by decide +kernel) (pc' := 45) (lo' := [(5, (0, v_15)), (0, (2, 7)), (1, (0, d)), (2, (0, s)), (3, (0, al)), (4, (0, i))]) (st' := [(0, v_15)]) rfl ?_
            refine jif_eq hF (off := 7) 52 (by decide +kernel) (by decide) (by omega) (fun h_17 => ?_) (fun h_17 => ?_)
            · refine jblk hF [(.iconst 0, 1), (.istore_n 3, 1)] (by decide +kernel) (pc' := 54) (lo' := [(3, (0, 0)), (5, (0, v_15)), (0, (2, 7)), (1, (0, d)), (2, (0, s)), (4, (0, i))]) (st' := []) rfl ?_
              refine jgoto hF (off := 32) 86 (by decide +kernel) (by decide) ?_
              refine jblk hF [(.iinc 4 1, 3)] (by decide +kernel) (pc' := 89) (lo' := [(4, (0, i + 1)), (3, (0, 0)), (5, (0, v_15)), (0, (2, 7)), (1, (0, d)), (2, (0, s))]) (st' := []) rfl ?_
              refine jgoto hF (off := (-78)) 11 (by decide +kernel) (by decide) ?_
              refine jsub [3, 4, 5, 1, 0] rfl ?_
              refine ih_4 s 0 (i + 1) m_13 rr2 k2 cs2 ?_ ?_ ?_
              · first | exact hZ | (obtain rfl : x = 1 := (by omega); exact hZ) | (obtain rfl : x = 0 := (by omega); exact hZ)
              · exact ⟨by omega, by omega, hZ2⟩
              · omega
            · refine jblk hF [(.iconst 1, 1)] (by decide +kernel) (pc' := 49) (lo' := [(5, (0, v_15)), (0, (2, 7)), (1, (0, d)), (2, (0, s)), (3, (0, al)), (4, (0, i))]) (st' := [(0, 1)]) rfl ?_
              refine jgoto hF (off := 4) 53 (by decide +kernel) (by decide) ?_
              refine jblk hF [(.istore_n 3, 1)] (by decide +kernel) (pc' := 54) (lo' := [(3, (0, 1)), (5, (0, v_15)), (0, (2, 7)), (1, (0, d)), (2, (0, s)), (4, (0, i))]) (st' := []) rfl ?_
              refine jgoto hF (off := 32) 86 (by decide +kernel) (by decide) ?_
              refine jblk hF [(.iinc 4 1, 3)] (by decide +kernel) (pc' := 89) (lo' := [(4, (0, i + 1)), (3, (0, 1)), (5, (0, v_15)), (0, (2, 7)), (1, (0, d)), (2, (0, s))]) (st' := []) rfl ?_
              refine jgoto hF (off := (-78)) 11 (by decide +kernel) (by decide) ?_
              refine jsub [3, 4, 5, 1, 0] rfl ?_
              refine ih_4 s 1 (i + 1) m_13 rr2 k2 cs2 ?_ ?_ ?_
              · first | exact hZ | (obtain rfl : x = 1 := (by omega); exact hZ) | (obtain rfl : x = 0 := (by omega); exact hZ)
              · exact ⟨by omega, by omega, hZ2⟩
              · omega
        · have h_11_ := h_11
          have hs1 := h_11
          refine jif_eq hF (off := 28) 57 (by decide +kernel) (by decide) (by decide) (fun _ => ?_) (fun h => absurd h (by decide))
          have f1 := hlp.1.miss (hs1.2.trans (if_neg (fun q1 => hs1.1.mpr q1)))
          have hrs1 := hrb.sk (T := T)
          have hRDs1 := f1.rd hRD
          have hws1 := f1.wI hrs1
          have has1 := f1.aB hrs1
          refine jblk hF [(.aload_n 0, 1), (.bipush 124, 2)] (by decide +kernel) (pc' := 60) (lo' := [(0, (2, 7)), (1, (0, d)), (2, (0, s)), (3, (0, al)), (4, (0, i))]) (st' := [(0, 124), (2, 7)]) rfl ?_
          refine jcallV hF (c_X5_accepts hG 124 (by exact t) (by exact r) (by exact T) (by exact L) (by assumption) (by omega) (by omega) (by decide)) MW_X5_accepts 6 (by decide) (by first | assumption | omega) wd_622 wd_624 wd_p14 (by decide +kernel) [] rfl rfl (rmI (by omega) (by decide)) (Nat.le_of_ble_eq_true rfl) ⟨Nat.le_of_ble_eq_true rfl, Nat.le_of_ble_eq_true rfl⟩ (kMB (fun m_19 h_20 => ?_) (fun m_19 h_20 => ?_))
          · have h_20_ := h_20
            have hs2 := h_20
            refine jif_eq hF (off := 29) 92 (by decide +kernel) (by decide) (by decide) (fun h => absurd h (by decide)) (fun _ => ?_)
            have t1 := hs2.1.mp trivial
            have Y := hlp.met (by decide) (Or.inr f1) t1 (hs2.2.trans (if_pos t1))
            have hSTa : STT kd ln t r T L m_19 := by rw [Y.2.2.1]; exact hST0.up (fun _ => ⟨Y.2.2.2.1, Y.2.2.2.2.1⟩) ⟨by decide, by decide⟩
            refine jblk hF [(.iload_n 2, 1)] (by decide +kernel) (pc' := 67) (lo' := [(0, (2, 7)), (1, (0, d)), (2, (0, s)), (3, (0, al)), (4, (0, i))]) (st' := [(0, s)]) rfl ?_
            refine jif_ne hF (off := 7) 74 (by decide +kernel) (by decide) (by omega) (fun h_22 => ?_) (fun h_22 => ?_)
            · refine jblk hF [(.iconst 1, 1)] (by decide +kernel) (pc' := 75) (lo' := [(0, (2, 7)), (1, (0, d)), (2, (0, s)), (3, (0, al)), (4, (0, i))]) (st' := [(0, 1)]) rfl ?_
              refine jgoto hF (off := 4) 79 (by decide +kernel) (by decide) ?_
              refine jblk hF [(.istore_n 2, 1), (.aload_n 0, 1), (.iload_n 1, 1)] (by decide +kernel) (pc' := 82) (lo' := [(2, (0, 1)), (0, (2, 7)), (1, (0, d)), (3, (0, al)), (4, (0, i))]) (st' := [(0, d), (2, 7)]) rfl ?_
              refine jcallV hF (hcal m_19 d (by exact hSTa) (by omega)) MW_X5_unit 6 (by decide) (by first | assumption | omega) wd_650 wd_652 wd_p16 (by decide +kernel) [] rfl rfl (rmI (by omega) (by decide)) (Nat.le_of_ble_eq_true rfl) ⟨Nat.le_of_ble_eq_true rfl, Nat.le_of_ble_eq_true rfl⟩ (kMR (fun v_25 m_23 h_24 => ?_))
              have hU := h_24
              have Z := hlp.or (by omega) (unitP_gd T L u) Y hU.2 hU.1 (or_w (x := 1) hs3 hs4 (by omega))
              obtain ⟨rr2, k2, cs2, hZ, hZ2⟩ : ∃ (rr2 : PR) (k2 : Nat) (cs2 : List Int), CLP T L (unitP T L u) (condP T L u) mem m_23 k2 rr2 cs2 1 v_25 ∧ (rr2.1 = -1 → i + 1 < rr2.2.1) := ⟨_, _, _, Z.1, fun q => by have z1 := Z.2 q; have z2 := hi.2.2 Y.1; omega⟩
              refine jblk hF [(.istore_n 3, 1), (.iinc 4 1, 3)] (by decide +kernel) (pc' := 89) (lo' := [(4, (0, i + 1)), (3, (0, v_25)), (2, (0, 1)), (0, (2, 7)), (1, (0, d))]) (st' := []) rfl ?_
              refine jgoto hF (off := (-78)) 11 (by decide +kernel) (by decide) ?_
              refine jsub [3, 4, 2, 1, 0] rfl ?_
              refine ih_4 1 v_25 (i + 1) m_23 rr2 k2 cs2 ?_ ?_ ?_
              · first | exact hZ | (obtain rfl : x = 1 := (by omega); exact hZ) | (obtain rfl : x = 0 := (by omega); exact hZ)
              · exact ⟨by omega, by omega, hZ2⟩
              · omega
            · refine jblk hF [(.iload_n 3, 1)] (by decide +kernel) (pc' := 71) (lo' := [(0, (2, 7)), (1, (0, d)), (2, (0, s)), (3, (0, al)), (4, (0, i))]) (st' := [(0, al)]) rfl ?_
              refine jif_eq hF (off := 7) 78 (by decide +kernel) (by decide) (by omega) (fun h_26 => ?_) (fun h_26 => ?_)
              · refine jblk hF [(.iconst 0, 1), (.istore_n 2, 1), (.aload_n 0, 1), (.iload_n 1, 1)] (by decide +kernel) (pc' := 82) (lo' := [(2, (0, 0)), (0, (2, 7)), (1, (0, d)), (3, (0, al)), (4, (0, i))]) (st' := [(0, d), (2, 7)]) rfl ?_
                refine jcallV hF (hcal m_19 d (by exact hSTa) (by omega)) MW_X5_unit 6 (by decide) (by first | assumption | omega) wd_650 wd_652 wd_p16 (by decide +kernel) [] rfl rfl (rmI (by omega) (by decide)) (Nat.le_of_ble_eq_true rfl) ⟨Nat.le_of_ble_eq_true rfl, Nat.le_of_ble_eq_true rfl⟩ (kMR (fun v_29 m_27 h_28 => ?_))
                have hU := h_28
                have Z := hlp.or (by omega) (unitP_gd T L u) Y hU.2 hU.1 (or_w (x := 0) hs3 hs4 (by omega))
                obtain ⟨rr2, k2, cs2, hZ, hZ2⟩ : ∃ (rr2 : PR) (k2 : Nat) (cs2 : List Int), CLP T L (unitP T L u) (condP T L u) mem m_27 k2 rr2 cs2 0 v_29 ∧ (rr2.1 = -1 → i + 1 < rr2.2.1) := ⟨_, _, _, Z.1, fun q => by have z1 := Z.2 q; have z2 := hi.2.2 Y.1; omega⟩
                refine jblk hF [(.istore_n 3, 1), (.iinc 4 1, 3)] (by decide +kernel) (pc' := 89) (lo' := [(4, (0, i + 1)), (3, (0, v_29)), (2, (0, 0)), (0, (2, 7)), (1, (0, d))]) (st' := []) rfl ?_
                refine jgoto hF (off := (-78)) 11 (by decide +kernel) (by decide) ?_
                refine jsub [3, 4, 2, 1, 0] rfl ?_
                refine ih_4 0 v_29 (i + 1) m_27 rr2 k2 cs2 ?_ ?_ ?_
                · first | exact hZ | (obtain rfl : x = 1 := (by omega); exact hZ) | (obtain rfl : x = 0 := (by omega); exact hZ)
                · exact ⟨by omega, by omega, hZ2⟩
                · omega
              · refine jblk hF [(.iconst 1, 1)] (by decide +kernel) (pc' := 75) (lo' := [(0, (2, 7)), (1, (0, d)), (2, (0, s)), (3, (0, al)), (4, (0, i))]) (st' := [(0, 1)]) rfl ?_
                refine jgoto hF (off := 4) 79 (by decide +kernel) (by decide) ?_
                refine jblk hF [(.istore_n 2, 1), (.aload_n 0, 1), (.iload_n 1, 1)] (by decide +kernel) (pc' := 82) (lo' := [(2, (0, 1)), (0, (2, 7)), (1, (0, d)), (3, (0, al)), (4, (0, i))]) (st' := [(0, d), (2, 7)]) rfl ?_
                refine jcallV hF (hcal m_19 d (by exact hSTa) (by omega)) MW_X5_unit 6 (by decide) (by first | assumption | omega) wd_650 wd_652 wd_p16 (by decide +kernel) [] rfl rfl (rmI (by omega) (by decide)) (Nat.le_of_ble_eq_true rfl) ⟨Nat.le_of_ble_eq_true rfl, Nat.le_of_ble_eq_true rfl⟩ (kMR (fun v_32 m_30 h_31 => ?_))
                have hU := h_31
                have Z := hlp.or (by omega) (unitP_gd T L u) Y hU.2 hU.1 (or_w (x := 1) hs3 hs4 (by omega))
                obtain ⟨rr2, k2, cs2, hZ, hZ2⟩ : ∃ (rr2 : PR) (k2 : Nat) (cs2 : List Int), CLP T L (unitP T L u) (condP T L u) mem m_30 k2 rr2 cs2 1 v_32 ∧ (rr2.1 = -1 → i + 1 < rr2.2.1) := ⟨_, _, _, Z.1, fun q => by have z1 := Z.2 q; have z2 := hi.2.2 Y.1; omega⟩
                refine jblk hF [(.istore_n 3, 1), (.iinc 4 1, 3)] (by decide +kernel) (pc' := 89) (lo' := [(4, (0, i + 1)), (3, (0, v_32)), (2, (0, 1)), (0, (2, 7)), (1, (0, d))]) (st' := []) rfl ?_
                refine jgoto hF (off := (-78)) 11 (by decide +kernel) (by decide) ?_
                refine jsub [3, 4, 2, 1, 0] rfl ?_
                refine ih_4 1 v_32 (i + 1) m_30 rr2 k2 cs2 ?_ ?_ ?_
                · first | exact hZ | (obtain rfl : x = 1 := (by omega); exact hZ) | (obtain rfl : x = 0 := (by omega); exact hZ)
                · exact ⟨by omega, by omega, hZ2⟩
                · omega
          · have h_20_ := h_20
            have hs2 := h_20
            refine jif_eq hF (off := 29) 92 (by decide +kernel) (by decide) (by decide) (fun _ => ?_) (fun h => absurd h (by decide))
            refine jblk hF [(.iload_n 2, 1)] (by decide +kernel) (pc' := 93) (lo' := [(0, (2, 7)), (1, (0, d)), (2, (0, s)), (3, (0, al)), (4, (0, i))]) (st' := [(0, s)]) rfl ?_
            refine jif_ne hF (off := 7) 100 (by decide +kernel) (by decide) (by omega) (fun h_34 => ?_) (fun h_34 => ?_)
            · refine jblk hF [(.iconst 1, 1)] (by decide +kernel) (pc' := 101) (lo' := [(0, (2, 7)), (1, (0, d)), (2, (0, s)), (3, (0, al)), (4, (0, i))]) (st' := [(0, 1)]) rfl ?_
              refine jgoto hF (off := 4) 105 (by decide +kernel) (by decide) ?_
              refine jzret hF hr (by omega) (by decide +kernel) ?_
              exact lMR (by first | exact ⟨by omega, hlp.bad (fun q1 => by have g1 := hi.2.2 q1; have g2 := (hrb.2 q1).2; omega) (by omega)⟩ | exact ⟨by omega, hlp.out (by have f9 := f1.miss (hs2.2.trans (if_neg (fun q1 => hs2.1.mpr q1))); rw [skR_sk] at f9; exact f9) (fun q1 => ⟨fun z0 => hs1.1.mpr ((hlp.1.nV q1).trans z0), fun z0 => hs2.1.mpr ((f1.nV2 q1).trans z0)⟩) (by rcases hlp.2.2.1 with y | y <;> rcases hlp.2.2.2.1 with z | z <;> first | (exfalso; omega) | (rw [y, z]; decide)) (by omega)⟩)
            · refine jblk hF [(.iload_n 3, 1)] (by decide +kernel) (pc' := 97) (lo' := [(0, (2, 7)), (1, (0, d)), (2, (0, s)), (3, (0, al)), (4, (0, i))]) (st' := [(0, al)]) rfl ?_
              refine jif_eq hF (off := 7) 104 (by decide +kernel) (by decide) (by omega) (fun h_35 => ?_) (fun h_35 => ?_)
              · refine jblk hF [(.iconst 0, 1)] (by decide +kernel) (pc' := 105) (lo' := [(0, (2, 7)), (1, (0, d)), (2, (0, s)), (3, (0, al)), (4, (0, i))]) (st' := [(0, 0)]) rfl ?_
                refine jzret hF hr (by omega) (by decide +kernel) ?_
                exact lMR (by first | exact ⟨by omega, hlp.bad (fun q1 => by have g1 := hi.2.2 q1; have g2 := (hrb.2 q1).2; omega) (by omega)⟩ | exact ⟨by omega, hlp.out (by have f9 := f1.miss (hs2.2.trans (if_neg (fun q1 => hs2.1.mpr q1))); rw [skR_sk] at f9; exact f9) (fun q1 => ⟨fun z0 => hs1.1.mpr ((hlp.1.nV q1).trans z0), fun z0 => hs2.1.mpr ((f1.nV2 q1).trans z0)⟩) (by rcases hlp.2.2.1 with y | y <;> rcases hlp.2.2.2.1 with z | z <;> first | (exfalso; omega) | (rw [y, z]; decide)) (by omega)⟩)
              · refine jblk hF [(.iconst 1, 1)] (by decide +kernel) (pc' := 101) (lo' := [(0, (2, 7)), (1, (0, d)), (2, (0, s)), (3, (0, al)), (4, (0, i))]) (st' := [(0, 1)]) rfl ?_
                refine jgoto hF (off := 4) 105 (by decide +kernel) (by decide) ?_
                refine jzret hF hr (by omega) (by decide +kernel) ?_
                exact lMR (by first | exact ⟨by omega, hlp.bad (fun q1 => by have g1 := hi.2.2 q1; have g2 := (hrb.2 q1).2; omega) (by omega)⟩ | exact ⟨by omega, hlp.out (by have f9 := f1.miss (hs2.2.trans (if_neg (fun q1 => hs2.1.mpr q1))); rw [skR_sk] at f9; exact f9) (fun q1 => ⟨fun z0 => hs1.1.mpr ((hlp.1.nV q1).trans z0), fun z0 => hs2.1.mpr ((f1.nV2 q1).trans z0)⟩) (by rcases hlp.2.2.1 with y | y <;> rcases hlp.2.2.2.1 with z | z <;> first | (exfalso; omega) | (rw [y, z]; decide)) (by omega)⟩)
  refine jsub [3, 4, 2, 1, 0] rfl ?_
  refine L_5 _ 0 v_3 0 m_1 (frA mem (unitP T L u)) 200 ([]) ?_ ?_ (Nat.lt_succ_self _)
  · exact hL0
  · exact ⟨by omega, by omega, hP0⟩
theorem c_X5_ucA {l : Launch} {g : GP} (hG : GH g) {kd : Int → Nat} {ln : Int → Int} {sz : Nat} (t r : Int) (T : Int → Int) (L : Int) : ∀ u : Nat, u ≤ 6 → (∀ (mem : Int → Int → Int) (d : Int), STT kd ln t r T L mem → (u : Int) = 6 - d → MT l g yX5_unit cX5_unit 7 (some .boolean) (3 * u + 6) 0 0 [(2, 7), (0, d)] kd ln mem sz (pMR 0 (fun v mem' => ((v = 0 ∨ v = 1) ∧ COM mem mem' (unitP T L u) v)) kd ln sz)) ∧ ∀ (mem : Int → Int → Int) (d : Int), STT kd ln t r T L mem → (u : Int) = 6 - d → MT l g yX5_condition cX5_condition 6 (some .boolean) (3 * u + 7) 0 0 [(2, 7), (0, d)] kd ln mem sz (pMR 0 (fun v mem' => ((v = 0 ∨ v = 1) ∧ COM mem mem' (condP T L u) v)) kd ln sz) := by
  intro u
  induction u with
  | zero =>
    intro h6
    have hun : ∀ (mem : Int → Int → Int) (d : Int), STT kd ln t r T L mem → ((0 : Nat) : Int) = 6 - d → MT l g yX5_unit cX5_unit 7 (some .boolean) (3 * 0 + 6) 0 0 [(2, 7), (0, d)] kd ln mem sz (pMR 0 (fun v mem' => ((v = 0 ∨ v = 1) ∧ COM mem mem' (unitP T L 0) v)) kd ln sz) := fun mem d h e => c_X5_unitO hG d t r T L h.1 0 h.2.1 h.2.2.1 h.2.2.2 e h6 (fun u2 m2 d2 q => by omega) (fun u2 m2 d2 q => by omega) ⟨by omega, by omega⟩
    exact ⟨hun, fun mem d h e => c_X5_condO hG d t r T L h.1 0 h.2.1 h.2.2.1 h.2.2.2 e hun ⟨by omega, by omega⟩⟩
  | succ u ih =>
    intro h6
    have hun : ∀ (mem : Int → Int → Int) (d : Int), STT kd ln t r T L mem → ((u + 1 : Nat) : Int) = 6 - d → MT l g yX5_unit cX5_unit 7 (some .boolean) (3 * (u + 1) + 6) 0 0 [(2, 7), (0, d)] kd ln mem sz (pMR 0 (fun v mem' => ((v = 0 ∨ v = 1) ∧ COM mem mem' (unitP T L (u + 1)) v)) kd ln sz) := fun mem d h e => c_X5_unitO hG d t r T L h.1 (u + 1) h.2.1 h.2.2.1 h.2.2.2 e h6 (fun u2 m2 d2 q h2 e2 => by
      obtain rfl : u = u2 := by omega
      exact (ih (by omega)).1 m2 d2 h2 e2) (fun u2 m2 d2 q h2 e2 => by
      obtain rfl : u = u2 := by omega
      exact (ih (by omega)).2 m2 d2 h2 e2) ⟨by omega, by omega⟩
    exact ⟨hun, fun mem d h e => c_X5_condO hG d t r T L h.1 (u + 1) h.2.1 h.2.2.1 h.2.2.2 e hun ⟨by omega, by omega⟩⟩
end
