section
/-- a reading from any state: it reads, or it stands still after a fault -/
def frA (mem : Int → Int → Int) (f : Int → PR) : PR := if mem 7 2 = -1 then f (mem 7 1) else erP (mem 7 2)
def COM (mem mm : Int → Int → Int) (f : Int → PR) (v : Int) : Prop := RES mem mm (frA mem f) v
theorem frA_in {mem : Int → Int → Int} {f : Int → PR} (hw : mem 7 2 = -1) : frA mem f = f (mem 7 1) := if_pos hw
theorem frA_no {mem : Int → Int → Int} {f : Int → PR} (hw : mem 7 2 ≠ -1) : frA mem f = erP (mem 7 2) := if_neg hw
theorem COM.ok {mem mm : Int → Int → Int} {f : Int → PR} {v : Int} (hw : mem 7 2 = -1) (h : RES mem mm (f (mem 7 1)) v) : COM mem mm f v := by
  unfold COM
  rw [frA_in hw]
  exact h
theorem COM.get {mem mm : Int → Int → Int} {f : Int → PR} {v : Int} (h : COM mem mm f v) (hw : mem 7 2 = -1) : RES mem mm (f (mem 7 1)) v := by
  unfold COM at h
  rw [frA_in hw] at h
  exact h
theorem COM.no {mem mm : Int → Int → Int} {f : Int → PR} {v : Int} (hw : mem 7 2 ≠ -1) (hv : v = 0) (hm : mm = mem) : COM mem mm f v := by
  unfold COM
  rw [frA_no hw]
  exact RES.er (a := mem 7 1) (by omega) rfl hw (by rw [hm]; exact upR_me mem)
theorem envR_up {mem : Int → Int → Int} {a w : Int} : envR (upR mem a w) = envR mem := by
  funext x
  unfold envR
  rw [upR_o (by omega), upR_o (by omega), upR_o (by omega)]
theorem RES.base {mem mm : Int → Int → Int} {a w : Int} {rr : PR} {v : Int} (h : RES (upR mem a w) mm rr v) : RES mem mm rr v := by
  obtain ⟨h1, h2, h3⟩ := h
  refine ⟨h1, fun e => ?_, fun e => ?_⟩
  · obtain ⟨x1, x2⟩ := h2 e
    rw [upR_up] at x1
    rw [envR_up] at x2
    exact ⟨x1, x2⟩
  · obtain ⟨a', x1⟩ := h3 e
    rw [upR_up] at x1
    exact ⟨a', x1⟩
theorem RES.w {mem mm : Int → Int → Int} {rr : PR} {v : Int} (h : RES mem mm rr v) : mm 7 2 = rr.1 := by
  by_cases e : rr.1 = -1
  · rw [(h.2.1 e).1, e]; exact upR_2
  · obtain ⟨a', x1⟩ := h.2.2 e
    rw [x1]; exact upR_2
theorem RES.a {mem mm : Int → Int → Int} {rr : PR} {v : Int} (h : RES mem mm rr v) (e : rr.1 = -1) : mm 7 1 = rr.2.1 := by
  rw [(h.2.1 e).1]; exact upR_1
theorem RES.rd {kd : Int → Nat} {ln : Int → Int} {t r : Int} {T : Int → Int} {L : Int} {mem mm : Int → Int → Int} {rr : PR} {v : Int} (h : RES mem mm rr v) (hRD : RDX kd ln t r T L mem) : RDX kd ln t r T L mm := by
  by_cases e : rr.1 = -1
  · rw [(h.2.1 e).1]; exact hRD.up
  · obtain ⟨a', x1⟩ := h.2.2 e
    rw [x1]; exact hRD.up
theorem nsV_no {T : Int → Int} {L a w : Int} (h : w ≠ -1) : nsV T L a w = -2 := if_neg h
theorem nsV_in {T : Int → Int} {L a : Int} : nsV T L a (-1) = chr T L (skp T L a) := if_pos rfl
theorem nsA_no {T : Int → Int} {L a w : Int} (h : w ≠ -1) : nsA T L a w = a := if_neg h
theorem nsA_in {T : Int → Int} {L a : Int} : nsA T L a (-1) = skp T L a := if_pos rfl
theorem rfW_no {L a w : Int} (h : w ≠ -1) : rfW L a w = w := if_neg h
theorem rfW_in {L a : Int} (h : a ≤ L) : rfW L a (-1) = a := (if_pos rfl).trans (if_neg (by omega))
/-- blanks passed -/
def skR (T : Int → Int) (L : Int) (rr : PR) : PR := bnd rr (fun a c => okP (skp T L a) c)
theorem skR_1 {T : Int → Int} {L : Int} {rr : PR} : (skR T L rr).1 = rr.1 := by
  unfold skR
  by_cases e : rr.1 = -1
  · rw [bnd_is e, e]; rfl
  · rw [bnd_no e]; rfl
theorem skR_in {T : Int → Int} {L : Int} {rr : PR} (e : rr.1 = -1) : skR T L rr = okP (skp T L rr.2.1) rr.2.2 := bnd_is e
theorem skR_sk {T : Int → Int} {L : Int} {rr : PR} : skR T L (skR T L rr) = skR T L rr := by
  by_cases e : rr.1 = -1
  · rw [skR_in (skR_1.trans e), skR_in e]
    show okP (skp T L (skp T L rr.2.1)) rr.2.2 = _
    rw [skp_skp]
  · unfold skR
    rw [bnd_no (by rw [bnd_no e]; exact e), bnd_no e]
    rfl
/-- a sign asked for and not met -/
theorem RES.miss {T : Int → Int} {L : Int} {mem mm m2 : Int → Int → Int} {rr : PR} {v : Int} (h : RES mem mm rr v) (hm : m2 = upR mm (nsA T L (mm 7 1) (mm 7 2)) (mm 7 2)) : RES mem m2 (skR T L rr) v := by
  rw [h.w] at hm
  by_cases e : rr.1 = -1
  · rw [h.a e, e, nsA_in, (h.2.1 e).1, upR_up] at hm
    exact RES.ok h.1 (skR_in e) hm (h.2.1 e).2
  · obtain ⟨a', x1⟩ := h.2.2 e
    rw [nsA_no e, x1, upR_1, upR_up] at hm
    refine RES.er h.1 (bnd_no e) e hm
/-- a sign asked for and met -/
theorem RES.meet {T : Int → Int} {L k : Int} {mem mm m2 : Int → Int → Int} {rr : PR} {v : Int} (h : RES mem mm rr v) (hk : k ≠ -2) (hv : nsV T L (mm 7 1) (mm 7 2) = k) (hm : m2 = upR mm (nsA T L (mm 7 1) (mm 7 2) + 1) (mm 7 2)) : rr.1 = -1 ∧ chr T L (skp T L rr.2.1) = k ∧ m2 = upR mem (skp T L rr.2.1 + 1) (-1) := by
  rw [h.w] at hm hv
  by_cases e : rr.1 = -1
  · rw [h.a e, e, nsA_in, (h.2.1 e).1, upR_up] at hm
    rw [h.a e, e, nsV_in] at hv
    exact ⟨e, hv, hm⟩
  · rw [nsV_no e] at hv
    exact absurd hv.symm hk
theorem RES.nV {T : Int → Int} {L : Int} {mem mm : Int → Int → Int} {rr : PR} {v : Int} (h : RES mem mm rr v) (e : rr.1 = -1) : nsV T L (mm 7 1) (mm 7 2) = chr T L (skp T L rr.2.1) := by
  rw [h.w, h.a e, e]; exact nsV_in
/-- a sign demanded -/
theorem RES.dem {T : Int → Int} {L k : Int} {mem mm m2 : Int → Int → Int} {rr : PR} {v : Int} (h : RES mem mm rr v) (hk : k ≠ -2) (hb : rr.1 = -1 → 0 ≤ rr.2.1 ∧ rr.2.1 ≤ L) (hm : m2 = (if nsV T L (mm 7 1) (mm 7 2) = k then upR mm (nsA T L (mm 7 1) (mm 7 2) + 1) (mm 7 2) else upR mm (nsA T L (mm 7 1) (mm 7 2) + 1) (rfW L (nsA T L (mm 7 1) (mm 7 2)) (mm 7 2)))) : RES mem m2 (bnd rr (clsP T L k)) v := by
  by_cases q1 : nsV T L (mm 7 1) (mm 7 2) = k
  · rw [if_pos q1] at hm
    obtain ⟨e, hc, h2⟩ := h.meet hk q1 hm
    exact RES.ok h.1 ((bnd_is e).trans (if_pos hc)) h2 (h.2.1 e).2
  · rw [if_neg q1] at hm
    by_cases e : rr.1 = -1
    · have hc : chr T L (skp T L rr.2.1) ≠ k := fun q2 => q1 ((h.nV e).trans q2)
      have hsk := skp_f T L rr.2.1
      have hb2 := hb e
      have hs2 := hsk.2.1 hb2.2
      rw [h.w, h.a e, e, nsA_in, rfW_in hs2, (h.2.1 e).1, upR_up] at hm
      exact RES.er h.1 ((bnd_is e).trans (if_neg hc)) (by omega) hm
    · obtain ⟨a', x1⟩ := h.2.2 e
      rw [h.w, nsA_no e, rfW_no e, x1, upR_1, upR_up] at hm
      exact RES.er h.1 (bnd_no e) e hm
theorem at_in {T : Int → Int} {L a : Int} {inn : Int → PR} (h : chr T L (skp T L a) = 91) : atomW T L inn a = bnd (inn (skp T L a + 1)) (clsP T L 93) := if_pos h
theorem at_var {T : Int → Int} {L a : Int} {inn : Int → PR} (h2 : chr T L (skp T L a) = 110 ∨ chr T L (skp T L a) = 98 ∨ chr T L (skp T L a) = 120) : atomW T L inn a = okP (skp T L a + 1) [1, chr T L (skp T L a)] := (if_neg (by omega)).trans (if_pos h2)
theorem at_num {T : Int → Int} {L a : Int} {inn : Int → PR} (h1 : chr T L (skp T L a) ≠ 91) (h2 : ¬ (chr T L (skp T L a) = 110 ∨ chr T L (skp T L a) = 98 ∨ chr T L (skp T L a) = 120)) : atomW T L inn a = numP T L (skp T L a) := (if_neg h1).trans (if_neg h2)
theorem num_no {T : Int → Int} {L a : Int} (h : ¬ isDg (chr T L a)) : numP T L a = erP a := if_neg h
/-- the places' worths are small -/
abbrev EB (mem : Int → Int → Int) : Prop := (-2147483648 ≤ mem 7 3 ∧ mem 7 3 ≤ 2147483647) ∧ (-2147483648 ≤ mem 7 4 ∧ mem 7 4 ≤ 2147483647) ∧ (-2147483648 ≤ mem 7 5 ∧ mem 7 5 ≤ 2147483647)
theorem EB.up {mem : Int → Int → Int} {a w : Int} (h : EB mem) : EB (upR mem a w) := by
  show (-2147483648 ≤ upR mem a w 7 3 ∧ upR mem a w 7 3 ≤ 2147483647) ∧ (-2147483648 ≤ upR mem a w 7 4 ∧ upR mem a w 7 4 ≤ 2147483647) ∧ (-2147483648 ≤ upR mem a w 7 5 ∧ upR mem a w 7 5 ≤ 2147483647)
  rw [upR_o (by omega), upR_o (by omega), upR_o (by omega)]
  exact h
theorem EB.env {mem : Int → Int → Int} (h : EB mem) (x : Int) : -2147483648 ≤ envR mem x ∧ envR mem x ≤ 2147483647 := by
  unfold envR
  split
  · omega
  · split <;> omega
theorem atom_ref {mem m m3 : Int → Int → Int} {T : Int → Int} {L v0 : Int} {u : Nat} (hq : v0 = nsV T L (mem 7 1) (mem 7 2) ∧ m = upR mem (nsA T L (mem 7 1) (mem 7 2)) (mem 7 2)) (h5 : m3 = upR m (m 7 1) (rfW L (m 7 1) (m 7 2))) (ha : mem 7 2 = -1 → 0 ≤ mem 7 1 ∧ mem 7 1 ≤ L) (h1 : ¬ isDg v0) (h2 : ¬ (v0 = 110 ∨ v0 = 98 ∨ v0 = 120)) (h3 : v0 = 91 → u = 0) : COM mem m3 (atomP T L u) 0 := by
  by_cases hw : mem 7 2 = -1
  · refine COM.ok hw ?_
    have hb := ha hw
    obtain ⟨hv, hm⟩ := hq
    rw [hw] at hv hm
    rw [nsV_in] at hv
    rw [nsA_in] at hm
    have hsk := skp_f T L (mem 7 1)
    have hs2 := hsk.2.1 hb.2
    have e1 : m 7 1 = skp T L (mem 7 1) := by rw [hm]; exact upR_1
    have e2 : m 7 2 = -1 := by rw [hm]; exact upR_2
    rw [e1, e2, rfW_in hs2, hm, upR_up] at h5
    show RES mem m3 (atomW T L (innP T L u) (mem 7 1)) 0
    by_cases q9 : v0 = 91
    · have hu := h3 q9
      subst hu
      rw [at_in (by omega)]
      have e9 : innP T L 0 (skp T L (mem 7 1) + 1) = erP (skp T L (mem 7 1)) := congrArg erP (by omega)
      rw [e9, bnd_er (by omega)]
      exact RES.er (by omega) rfl (by omega) h5
    · rw [at_num (by omega) (by omega), num_no (by rw [← hv]; exact h1)]
      exact RES.er (by omega) rfl (by omega) h5
  · refine COM.no hw rfl ?_
    obtain ⟨-, hm⟩ := hq
    rw [nsA_no hw, ← upR_me] at hm
    rw [h5, hm, rfW_no hw, ← upR_me]
theorem atom_var {mem m m3 : Int → Int → Int} {T : Int → Int} {L v0 v : Int} {u : Nat} (hq : v0 = nsV T L (mem 7 1) (mem 7 2) ∧ m = upR mem (nsA T L (mem 7 1) (mem 7 2)) (mem 7 2)) (hw : mem 7 2 = -1) (h2 : v0 = 110 ∨ v0 = 98 ∨ v0 = 120) (hm3 : m3 = set2 m 7 1 (m 7 1 + 1)) (hv : v = envR mem v0) (hEB : EB mem) : COM mem m3 (atomP T L u) v := by
  refine COM.ok hw ?_
  obtain ⟨hv0, hm⟩ := hq
  rw [hw] at hv0 hm
  rw [nsV_in] at hv0
  rw [nsA_in] at hm
  have e1 : m 7 1 = skp T L (mem 7 1) := by rw [hm]; exact upR_1
  rw [e1, hm, upR_s1] at hm3
  show RES mem m3 (atomW T L (innP T L u) (mem 7 1)) v
  have hb := hEB.env v0
  rw [at_var (by omega), ← hv0]
  exact RES.ok (by omega) rfl hm3 (by rw [hv]; exact EV.let (show InI (envR mem v0) from ⟨by omega, by omega⟩) (by omega))
set_option maxHeartbeats 4000000 in
set_option maxRecDepth 100000 in
theorem c_X5_atomO {l : Launch} {g : GP} (hG : GH g) {kd : Int → Nat} {ln : Int → Int} {mem : Int → Int → Int} {sz : Nat} (d : Int) (t : Int) (r : Int) (T : Int → Int) (L : Int) (hRD : RDX kd ln t r T L mem) (u : Nat) (hEB : EB mem) (ha : mem 7 2 = -1 → 0 ≤ mem 7 1 ∧ mem 7 1 ≤ L) (hw : InI (mem 7 2)) (hu : (u : Int) = 6 - d) (hsum : ∀ (u2 : Nat) (mem : Int → Int → Int) (d : Int), u = u2 + 1 → RDX kd ln t r T L mem → EB mem → (mem 7 2 = -1 → 0 ≤ mem 7 1 ∧ mem 7 1 ≤ L) → InI (mem 7 2) → (u2 : Int) = 6 - d → MT l g yX5_sum cX5_sum 5 (some .long) (3 * u2 + 5) 0 0 [(2, 7), (0, d)] kd ln mem sz (pMR 1 (fun v mem' => (COM mem mem' (sumP T L u2) v)) kd ln sz)) (h_d : InI d) : MT l g yX5_atom cX5_atom 5 (some .long) (3 * u + 3) 0 0 [(2, 7), (0, d)] kd ln mem sz (pMR 1 (fun v mem' => (COM mem mem' (atomP T L u) v)) kd ln sz) := by
  refine MT_of hG (by decide +kernel) (Nat.le_of_ble_eq_true rfl) (fun z hF hr hn => ?_)
  have ⟨r1, r2, r3, r4, r5, r6, r7, r8, r9, r10, r11, r12, r13⟩ := hRD
  have ha9 : mem 7 2 = -1 → 0 ≤ mem 7 1 ∧ mem 7 1 ≤ L + 1 := by omega
  have hat : atomP T L u (mem 7 1) = atomW T L (innP T L u) (mem 7 1) := rfl
  refine jblk hF [(.aload_n 0, 1)] (by decide +kernel) (pc' := 1) (lo' := [(0, (2, 7)), (1, (0, d))]) (st' := [(2, 7)]) rfl ?_
  refine jcallV hF (c_X5_nextSign hG (by exact t) (by exact r) (by exact T) (by exact L) (by assumption) (by omega) (by omega)) MW_X5_nextSign 6 (by decide) (by first | assumption | omega) wd_580 wd_582 wd_p6 (by decide +kernel) [] rfl rfl (rmI (by omega) (by decide)) (Nat.le_of_ble_eq_true rfl) ⟨Nat.le_of_ble_eq_true rfl, Nat.le_of_ble_eq_true rfl⟩ (kMR (fun v_3 m_1 h_2 => ?_))
  have hq := h_2
  have hRD3 : RDX kd ln t r T L m_1 := by rw [hq.2]; exact hRD.up
  have e1 : m_1 7 1 = nsA T L (mem 7 1) (mem 7 2) := by rw [hq.2]; exact upR_1
  have e2 : m_1 7 2 = mem 7 2 := by rw [hq.2]; exact upR_2
  have hnv := nsV_bd hRD ha9
  have hna := nsA_bd (T := T) ha9
  have hsk := skp_f T L (mem 7 1)
  have hno : mem 7 2 ≠ -1 → v_3 = -2 := fun q1 => hq.1.trans (nsV_no q1)
  have hyes : mem 7 2 = -1 → v_3 = chr T L (skp T L (mem 7 1)) := fun q1 => by rw [hq.1, q1]; exact nsV_in
  have hA : mem 7 2 = -1 → m_1 = upR mem (skp T L (mem 7 1)) (-1) := fun q1 => by rw [hq.2, q1, nsA_in]
  refine jblk hF [(.istore_n 2, 1), (.iload_n 2, 1)] (by decide +kernel) (pc' := 6) (lo' := [(2, (0, v_3)), (0, (2, 7)), (1, (0, d))]) (st' := [(0, v_3)]) rfl ?_
  refine jcallS hF (c_X5_isDigit hG v_3 (by omega)) MW_X5_isDigit wd_614 wd_615 (by decide +kernel) [] rfl rfl (rmI (by omega) (by decide)) (Nat.le_of_ble_eq_true rfl) ⟨Nat.le_of_ble_eq_true rfl, Nat.le_of_ble_eq_true rfl⟩ (kB (fun h_4 => ?_) (fun h_4 => ?_))
  · refine jif_eq hF (off := 8) 17 (by decide +kernel) (by decide) (by decide) (fun h => absurd h (by decide)) (fun _ => ?_)
    have hw1 : mem 7 2 = -1 := by omega
    have e3 : m_1 7 1 = skp T L (mem 7 1) := by rw [e1, hw1]; exact nsA_in
    have hvc := hyes hw1
    have hlt := chr_lt T (by omega : chr T L (skp T L (mem 7 1)) ≠ -1)
    have hb := ha hw1
    have hdT : T (skp T L (mem 7 1)) = v_3 := by rw [hvc]; exact (chr_in hlt).symm
    have hdg2 : isDg (T (m_1 7 1)) := by rw [e3, hdT]; omega
    refine jblk hF [(.aload_n 0, 1)] (by decide +kernel) (pc' := 13) (lo' := [(2, (0, v_3)), (0, (2, 7)), (1, (0, d))]) (st' := [(2, 7)]) rfl ?_
    refine jcallV hF (c_X5_number hG (by exact t) (by exact r) (by exact T) (by exact L) (by assumption) (by omega) (by omega) (by exact hdg2)) MW_X5_number 6 (by decide) (by first | assumption | omega) wd_617 wd_619 wd_p13 (by decide +kernel) [] rfl rfl (rmI (by omega) (by decide)) (Nat.le_of_ble_eq_true rfl) ⟨Nat.le_of_ble_eq_true rfl, Nat.le_of_ble_eq_true rfl⟩ (kMR (fun v_8 m_6 h_7 => ?_))
    have hN := h_7
    rw [e3, hA hw1] at hN
    have hN2 := hN.base
    refine jlret hF hr (by decide +kernel) ?_
    exact lMR (by exact COM.ok hw1 (by rw [hat, at_num (by omega) (by omega)]; exact hN2))
  · refine jif_eq hF (off := 8) 17 (by decide +kernel) (by decide) (by decide) (fun _ => ?_) (fun h => absurd h (by decide))
    refine jblk hF [(.iload_n 2, 1), (.bipush 91, 2)] (by decide +kernel) (pc' := 20) (lo' := [(2, (0, v_3)), (0, (2, 7)), (1, (0, d))]) (st' := [(0, 91), (0, v_3)]) rfl ?_
    refine jicmp_ne hF (off := 35) 55 (by decide +kernel) (by decide) (by omega) (by decide) (fun h_10 => ?_) (fun h_10 => ?_)
    · refine jblk hF [(.iload_n 2, 1), (.bipush 110, 2)] (by decide +kernel) (pc' := 58) (lo' := [(2, (0, v_3)), (0, (2, 7)), (1, (0, d))]) (st' := [(0, 110), (0, v_3)]) rfl ?_
      refine jicmp_eq hF (off := 21) 79 (by decide +kernel) (by decide) (by omega) (by decide) (fun h_11 => ?_) (fun h_11 => ?_)
      · refine jblk hF [(.aload_n 0, 1), (.dup, 1)] (by decide +kernel) (pc' := 81) (lo' := [(2, (0, v_3)), (0, (2, 7)), (1, (0, d))]) (st' := [(2, 7), (2, 7)]) rfl ?_
        refine jget hF 6 1 0 1 rfl (by decide) (by decide) rfl wd_171 (by decide +kernel) (by first | assumption | omega) ?_
        refine jblk hF [(.iconst 1, 1), (.iadd, 1)] (by decide +kernel) (pc' := 86) (lo' := [(2, (0, v_3)), (0, (2, 7)), (1, (0, d))]) (st' := [(0, (m_1 7 1) + 1), (2, 7)]) rfl ?_
        refine jput hF 6 1 0 1 rfl (by decide) (by decide) rfl wd_171 (by decide +kernel) rfl (Or.inl rfl) (by first | assumption | omega) (fun h => by cases h) ?_
        refine jblk hF [(.iload_n 2, 1), (.bipush 110, 2)] (by decide +kernel) (pc' := 92) (lo' := [(2, (0, v_3)), (0, (2, 7)), (1, (0, d))]) (st' := [(0, 110), (0, v_3)]) rfl ?_
        refine jicmp_ne hF (off := 8) 100 (by decide +kernel) (by decide) (by omega) (by decide) (fun h_12 => ?_) (fun h_12 => ?_)
        · refine jblk hF [(.iload_n 2, 1), (.bipush 98, 2)] (by decide +kernel) (pc' := 103) (lo' := [(2, (0, v_3)), (0, (2, 7)), (1, (0, d))]) (st' := [(0, 98), (0, v_3)]) rfl ?_
          refine jicmp_ne hF (off := 10) 113 (by decide +kernel) (by decide) (by omega) (by decide) (fun h_13 => ?_) (fun h_13 => ?_)
          · refine jblk hF [(.aload_n 0, 1)] (by decide +kernel) (pc' := 114) (lo' := [(2, (0, v_3)), (0, (2, 7)), (1, (0, d))]) (st' := [(2, 7)]) rfl ?_
            refine jget hF 6 5 1 5 rfl (by decide) (by decide) rfl wd_175 (by decide +kernel) (by first | assumption | omega) ?_
            rw [show (set2 m_1 7 1 ((m_1 7 1) + 1)) 7 5 = m_1 7 5 from (s2_k (by decide))]
            refine jlret hF hr (by decide +kernel) ?_
            exact lMR (by exact atom_var hq (by omega) (by omega) rfl (by first | (exfalso; omega) | (rw [hq.2, upR_o (by omega)]; unfold envR; first | (rw [if_pos (by omega)]; done) | (rw [if_neg (by omega), if_pos (by omega)]; done) | (rw [if_neg (by omega), if_neg (by omega)]; done))) hEB)
          · refine jblk hF [(.aload_n 0, 1)] (by decide +kernel) (pc' := 107) (lo' := [(2, (0, v_3)), (0, (2, 7)), (1, (0, d))]) (st' := [(2, 7)]) rfl ?_
            refine jget hF 6 4 1 4 rfl (by decide) (by decide) rfl wd_174 (by decide +kernel) (by first | assumption | omega) ?_
            rw [show (set2 m_1 7 1 ((m_1 7 1) + 1)) 7 4 = m_1 7 4 from (s2_k (by decide))]
            refine jgoto hF (off := 7) 117 (by decide +kernel) (by decide) ?_
            refine jlret hF hr (by decide +kernel) ?_
            exact lMR (by exact atom_var hq (by omega) (by omega) rfl (by first | (exfalso; omega) | (rw [hq.2, upR_o (by omega)]; unfold envR; first | (rw [if_pos (by omega)]; done) | (rw [if_neg (by omega), if_pos (by omega)]; done) | (rw [if_neg (by omega), if_neg (by omega)]; done))) hEB)
        · refine jblk hF [(.aload_n 0, 1)] (by decide +kernel) (pc' := 96) (lo' := [(2, (0, v_3)), (0, (2, 7)), (1, (0, d))]) (st' := [(2, 7)]) rfl ?_
          refine jget hF 6 3 1 3 rfl (by decide) (by decide) rfl wd_173 (by decide +kernel) (by first | assumption | omega) ?_
          rw [show (set2 m_1 7 1 ((m_1 7 1) + 1)) 7 3 = m_1 7 3 from (s2_k (by decide))]
          refine jlret hF hr (by decide +kernel) ?_
          exact lMR (by exact atom_var hq (by omega) (by omega) rfl (by first | (exfalso; omega) | (rw [hq.2, upR_o (by omega)]; unfold envR; first | (rw [if_pos (by omega)]; done) | (rw [if_neg (by omega), if_pos (by omega)]; done) | (rw [if_neg (by omega), if_neg (by omega)]; done))) hEB)
      · refine jblk hF [(.iload_n 2, 1), (.bipush 98, 2)] (by decide +kernel) (pc' := 64) (lo' := [(2, (0, v_3)), (0, (2, 7)), (1, (0, d))]) (st' := [(0, 98), (0, v_3)]) rfl ?_
        refine jicmp_eq hF (off := 15) 79 (by decide +kernel) (by decide) (by omega) (by decide) (fun h_14 => ?_) (fun h_14 => ?_)
        · refine jblk hF [(.aload_n 0, 1), (.dup, 1)] (by decide +kernel) (pc' := 81) (lo' := [(2, (0, v_3)), (0, (2, 7)), (1, (0, d))]) (st' := [(2, 7), (2, 7)]) rfl ?_
          refine jget hF 6 1 0 1 rfl (by decide) (by decide) rfl wd_171 (by decide +kernel) (by first | assumption | omega) ?_
          refine jblk hF [(.iconst 1, 1), (.iadd, 1)] (by decide +kernel) (pc' := 86) (lo' := [(2, (0, v_3)), (0, (2, 7)), (1, (0, d))]) (st' := [(0, (m_1 7 1) + 1), (2, 7)]) rfl ?_
          refine jput hF 6 1 0 1 rfl (by decide) (by decide) rfl wd_171 (by decide +kernel) rfl (Or.inl rfl) (by first | assumption | omega) (fun h => by cases h) ?_
          refine jblk hF [(.iload_n 2, 1), (.bipush 110, 2)] (by decide +kernel) (pc' := 92) (lo' := [(2, (0, v_3)), (0, (2, 7)), (1, (0, d))]) (st' := [(0, 110), (0, v_3)]) rfl ?_
          refine jicmp_ne hF (off := 8) 100 (by decide +kernel) (by decide) (by omega) (by decide) (fun h_15 => ?_) (fun h_15 => ?_)
          · refine jblk hF [(.iload_n 2, 1), (.bipush 98, 2)] (by decide +kernel) (pc' := 103) (lo' := [(2, (0, v_3)), (0, (2, 7)), (1, (0, d))]) (st' := [(0, 98), (0, v_3)]) rfl ?_
            refine jicmp_ne hF (off := 10) 113 (by decide +kernel) (by decide) (by omega) (by decide) (fun h_16 => ?_) (fun h_16 => ?_)
            · refine jblk hF [(.aload_n 0, 1)] (by decide +kernel) (pc' := 114) (lo' := [(2, (0, v_3)), (0, (2, 7)), (1, (0, d))]) (st' := [(2, 7)]) rfl ?_
              refine jget hF 6 5 1 5 rfl (by decide) (by decide) rfl wd_175 (by decide +kernel) (by first | assumption | omega) ?_
              rw [show (set2 m_1 7 1 ((m_1 7 1) + 1)) 7 5 = m_1 7 5 from (s2_k (by decide))]
              refine jlret hF hr (by decide +kernel) ?_
              exact lMR (by exact atom_var hq (by omega) (by omega) rfl (by first | (exfalso; omega) | (rw [hq.2, upR_o (by omega)]; unfold envR; first | (rw [if_pos (by omega)]; done) | (rw [if_neg (by omega), if_pos (by omega)]; done) | (rw [if_neg (by omega), if_neg (by omega)]; done))) hEB)
            · refine jblk hF [(.aload_n 0, 1)] (by decide +kernel) (pc' := 107) (lo' := [(2, (0, v_3)), (0, (2, 7)), (1, (0, d))]) (st' := [(2, 7)]) rfl ?_
              refine jget hF 6 4 1 4 rfl (by decide) (by decide) rfl wd_174 (by decide +kernel) (by first | assumption | omega) ?_
              rw [show (set2 m_1 7 1 ((m_1 7 1) + 1)) 7 4 = m_1 7 4 from (s2_k (by decide))]
              refine jgoto hF (off := 7) 117 (by decide +kernel) (by decide) ?_
              refine jlret hF hr (by decide +kernel) ?_
              exact lMR (by exact atom_var hq (by omega) (by omega) rfl (by first | (exfalso; omega) | (rw [hq.2, upR_o (by omega)]; unfold envR; first | (rw [if_pos (by omega)]; done) | (rw [if_neg (by omega), if_pos (by omega)]; done) | (rw [if_neg (by omega), if_neg (by omega)]; done))) hEB)
          · refine jblk hF [(.aload_n 0, 1)] (by decide +kernel) (pc' := 96) (lo' := [(2, (0, v_3)), (0, (2, 7)), (1, (0, d))]) (st' := [(2, 7)]) rfl ?_
            refine jget hF 6 3 1 3 rfl (by decide) (by decide) rfl wd_173 (by decide +kernel) (by first | assumption | omega) ?_
            rw [show (set2 m_1 7 1 ((m_1 7 1) + 1)) 7 3 = m_1 7 3 from (s2_k (by decide))]
            refine jlret hF hr (by decide +kernel) ?_
            exact lMR (by exact atom_var hq (by omega) (by omega) rfl (by first | (exfalso; omega) | (rw [hq.2, upR_o (by omega)]; unfold envR; first | (rw [if_pos (by omega)]; done) | (rw [if_neg (by omega), if_pos (by omega)]; done) | (rw [if_neg (by omega), if_neg (by omega)]; done))) hEB)
        · refine jblk hF [(.iload_n 2, 1), (.bipush 120, 2)] (by decide +kernel) (pc' := 70) (lo' := [(2, (0, v_3)), (0, (2, 7)), (1, (0, d))]) (st' := [(0, 120), (0, v_3)]) rfl ?_
          refine jicmp_eq hF (off := 9) 79 (by decide +kernel) (by decide) (by omega) (by decide) (fun h_17 => ?_) (fun h_17 => ?_)
          · refine jblk hF [(.aload_n 0, 1), (.dup, 1)] (by decide +kernel) (pc' := 81) (lo' := [(2, (0, v_3)), (0, (2, 7)), (1, (0, d))]) (st' := [(2, 7), (2, 7)]) rfl ?_
            refine jget hF 6 1 0 1 rfl (by decide) (by decide) rfl wd_171 (by decide +kernel) (by first | assumption | omega) ?_
            refine jblk hF [(.iconst 1, 1), (.iadd, 1)] (by decide +kernel) (pc' := 86) (lo' := [(2, (0, v_3)), (0, (2, 7)), (1, (0, d))]) (st' := [(0, (m_1 7 1) + 1), (2, 7)]) rfl ?_
            refine jput hF 6 1 0 1 rfl (by decide) (by decide) rfl wd_171 (by decide +kernel) rfl (Or.inl rfl) (by first | assumption | omega) (fun h => by cases h) ?_
            refine jblk hF [(.iload_n 2, 1), (.bipush 110, 2)] (by decide +kernel) (pc' := 92) (lo' := [(2, (0, v_3)), (0, (2, 7)), (1, (0, d))]) (st' := [(0, 110), (0, v_3)]) rfl ?_
            refine jicmp_ne hF (off := 8) 100 (by decide +kernel) (by decide) (by omega) (by decide) (fun h_18 => ?_) (fun h_18 => ?_)
            · refine jblk hF [(.iload_n 2, 1), (.bipush 98, 2)] (by decide +kernel) (pc' := 103) (lo' := [(2, (0, v_3)), (0, (2, 7)), (1, (0, d))]) (st' := [(0, 98), (0, v_3)]) rfl ?_
              refine jicmp_ne hF (off := 10) 113 (by decide +kernel) (by decide) (by omega) (by decide) (fun h_19 => ?_) (fun h_19 => ?_)
              · refine jblk hF [(.aload_n 0, 1)] (by decide +kernel) (pc' := 114) (lo' := [(2, (0, v_3)), (0, (2, 7)), (1, (0, d))]) (st' := [(2, 7)]) rfl ?_
                refine jget hF 6 5 1 5 rfl (by decide) (by decide) rfl wd_175 (by decide +kernel) (by first | assumption | omega) ?_
                rw [show (set2 m_1 7 1 ((m_1 7 1) + 1)) 7 5 = m_1 7 5 from (s2_k (by decide))]
                refine jlret hF hr (by decide +kernel) ?_
                exact lMR (by exact atom_var hq (by omega) (by omega) rfl (by first | (exfalso; omega) | (rw [hq.2, upR_o (by omega)]; unfold envR; first | (rw [if_pos (by omega)]; done) | (rw [if_neg (by omega), if_pos (by omega)]; done) | (rw [if_neg (by omega), if_neg (by omega)]; done))) hEB)
              · refine jblk hF [(.aload_n 0, 1)] (by decide +kernel) (pc' := 107) (lo' := [(2, (0, v_3)), (0, (2, 7)), (1, (0, d))]) (st' := [(2, 7)]) rfl ?_
                refine jget hF 6 4 1 4 rfl (by decide) (by decide) rfl wd_174 (by decide +kernel) (by first | assumption | omega) ?_
                rw [show (set2 m_1 7 1 ((m_1 7 1) + 1)) 7 4 = m_1 7 4 from (s2_k (by decide))]
                refine jgoto hF (off := 7) 117 (by decide +kernel) (by decide) ?_
                refine jlret hF hr (by decide +kernel) ?_
                exact lMR (by exact atom_var hq (by omega) (by omega) rfl (by first | (exfalso; omega) | (rw [hq.2, upR_o (by omega)]; unfold envR; first | (rw [if_pos (by omega)]; done) | (rw [if_neg (by omega), if_pos (by omega)]; done) | (rw [if_neg (by omega), if_neg (by omega)]; done))) hEB)
            · refine jblk hF [(.aload_n 0, 1)] (by decide +kernel) (pc' := 96) (lo' := [(2, (0, v_3)), (0, (2, 7)), (1, (0, d))]) (st' := [(2, 7)]) rfl ?_
              refine jget hF 6 3 1 3 rfl (by decide) (by decide) rfl wd_173 (by decide +kernel) (by first | assumption | omega) ?_
              rw [show (set2 m_1 7 1 ((m_1 7 1) + 1)) 7 3 = m_1 7 3 from (s2_k (by decide))]
              refine jlret hF hr (by decide +kernel) ?_
              exact lMR (by exact atom_var hq (by omega) (by omega) rfl (by first | (exfalso; omega) | (rw [hq.2, upR_o (by omega)]; unfold envR; first | (rw [if_pos (by omega)]; done) | (rw [if_neg (by omega), if_pos (by omega)]; done) | (rw [if_neg (by omega), if_neg (by omega)]; done))) hEB)
          · refine jblk hF [(.aload_n 0, 1)] (by decide +kernel) (pc' := 74) (lo' := [(2, (0, v_3)), (0, (2, 7)), (1, (0, d))]) (st' := [(2, 7)]) rfl ?_
            refine jcallV hF (c_X5_refuse hG (by exact t) (by exact r) (by exact T) (by exact L) (by assumption) (by omega) (by omega)) MW_X5_refuse 6 (by decide) (by first | assumption | omega) wd_587 wd_589 wd_p7 (by decide +kernel) [] rfl rfl (rmI (by omega) (by decide)) (Nat.le_of_ble_eq_true rfl) ⟨Nat.le_of_ble_eq_true rfl, Nat.le_of_ble_eq_true rfl⟩ (kMV (fun m_20 h_21 => ?_))
            have hq5 := h_21
            refine jlconst hF (n := 0) 0 rfl (by decide +kernel) ?_
            refine jlret hF hr (by decide +kernel) ?_
            exact lMR (by exact atom_ref hq hq5 ha (by omega) (by omega) (fun q1 => by omega))
    · refine jblk hF [(.iload_n 1, 1), (.bipush 6, 2)] (by decide +kernel) (pc' := 26) (lo' := [(2, (0, v_3)), (0, (2, 7)), (1, (0, d))]) (st' := [(0, 6), (0, d)]) rfl ?_
      refine jicmp_ge hF (off := 29) 55 (by decide +kernel) (by decide) (by omega) (by decide) (fun h_22 => ?_) (fun h_22 => ?_)
      · refine jblk hF [(.iload_n 2, 1), (.bipush 110, 2)] (by decide +kernel) (pc' := 58) (lo' := [(2, (0, v_3)), (0, (2, 7)), (1, (0, d))]) (st' := [(0, 110), (0, v_3)]) rfl ?_
        refine jicmp_eq hF (off := 21) 79 (by decide +kernel) (by decide) (by omega) (by decide) (fun h_23 => ?_) (fun h_23 => ?_)
        · refine jblk hF [(.aload_n 0, 1), (.dup, 1)] (by decide +kernel) (pc' := 81) (lo' := [(2, (0, v_3)), (0, (2, 7)), (1, (0, d))]) (st' := [(2, 7), (2, 7)]) rfl ?_
          refine jget hF 6 1 0 1 rfl (by decide) (by decide) rfl wd_171 (by decide +kernel) (by first | assumption | omega) ?_
          refine jblk hF [(.iconst 1, 1), (.iadd, 1)] (by decide +kernel) (pc' := 86) (lo' := [(2, (0, v_3)), (0, (2, 7)), (1, (0, d))]) (st' := [(0, (m_1 7 1) + 1), (2, 7)]) rfl ?_
          refine jput hF 6 1 0 1 rfl (by decide) (by decide) rfl wd_171 (by decide +kernel) rfl (Or.inl rfl) (by first | assumption | omega) (fun h => by cases h) ?_
          refine jblk hF [(.iload_n 2, 1), (.bipush 110, 2)] (by decide +kernel) (pc' := 92) (lo' := [(2, (0, v_3)), (0, (2, 7)), (1, (0, d))]) (st' := [(0, 110), (0, v_3)]) rfl ?_
          refine jicmp_ne hF (off := 8) 100 (by decide +kernel) (by decide) (by omega) (by decide) (fun h_24 => ?_) (fun h_24 => ?_)
          · refine jblk hF [(.iload_n 2, 1), (.bipush 98, 2)] (by decide +kernel) (pc' := 103) (lo' := [(2, (0, v_3)), (0, (2, 7)), (1, (0, d))]) (st' := [(0, 98), (0, v_3)]) rfl ?_
            refine jicmp_ne hF (off := 10) 113 (by decide +kernel) (by decide) (by omega) (by decide) (fun h_25 => ?_) (fun h_25 => ?_)
            · refine jblk hF [(.aload_n 0, 1)] (by decide +kernel) (pc' := 114) (lo' := [(2, (0, v_3)), (0, (2, 7)), (1, (0, d))]) (st' := [(2, 7)]) rfl ?_
              refine jget hF 6 5 1 5 rfl (by decide) (by decide) rfl wd_175 (by decide +kernel) (by first | assumption | omega) ?_
              rw [show (set2 m_1 7 1 ((m_1 7 1) + 1)) 7 5 = m_1 7 5 from (s2_k (by decide))]
              refine jlret hF hr (by decide +kernel) ?_
              exact lMR (by exact atom_var hq (by omega) (by omega) rfl (by first | (exfalso; omega) | (rw [hq.2, upR_o (by omega)]; unfold envR; first | (rw [if_pos (by omega)]; done) | (rw [if_neg (by omega), if_pos (by omega)]; done) | (rw [if_neg (by omega), if_neg (by omega)]; done))) hEB)
            · refine jblk hF [(.aload_n 0, 1)] (by decide +kernel) (pc' := 107) (lo' := [(2, (0, v_3)), (0, (2, 7)), (1, (0, d))]) (st' := [(2, 7)]) rfl ?_
              refine jget hF 6 4 1 4 rfl (by decide) (by decide) rfl wd_174 (by decide +kernel) (by first | assumption | omega) ?_
              rw [show (set2 m_1 7 1 ((m_1 7 1) + 1)) 7 4 = m_1 7 4 from (s2_k (by decide))]
              refine jgoto hF (off := 7) 117 (by decide +kernel) (by decide) ?_
              refine jlret hF hr (by decide +kernel) ?_
              exact lMR (by exact atom_var hq (by omega) (by omega) rfl (by first | (exfalso; omega) | (rw [hq.2, upR_o (by omega)]; unfold envR; first | (rw [if_pos (by omega)]; done) | (rw [if_neg (by omega), if_pos (by omega)]; done) | (rw [if_neg (by omega), if_neg (by omega)]; done))) hEB)
          · refine jblk hF [(.aload_n 0, 1)] (by decide +kernel) (pc' := 96) (lo' := [(2, (0, v_3)), (0, (2, 7)), (1, (0, d))]) (st' := [(2, 7)]) rfl ?_
            refine jget hF 6 3 1 3 rfl (by decide) (by decide) rfl wd_173 (by decide +kernel) (by first | assumption | omega) ?_
            rw [show (set2 m_1 7 1 ((m_1 7 1) + 1)) 7 3 = m_1 7 3 from (s2_k (by decide))]
            refine jlret hF hr (by decide +kernel) ?_
            exact lMR (by exact atom_var hq (by omega) (by omega) rfl (by first | (exfalso; omega) | (rw [hq.2, upR_o (by omega)]; unfold envR; first | (rw [if_pos (by omega)]; done) | (rw [if_neg (by omega), if_pos (by omega)]; done) | (rw [if_neg (by omega), if_neg (by omega)]; done))) hEB)
        · refine jblk hF [(.iload_n 2, 1), (.bipush 98, 2)] (by decide +kernel) (pc' := 64) (lo' := [(2, (0, v_3)), (0, (2, 7)), (1, (0, d))]) (st' := [(0, 98), (0, v_3)]) rfl ?_
          refine jicmp_eq hF (off := 15) 79 (by decide +kernel) (by decide) (by omega) (by decide) (fun h_26 => ?_) (fun h_26 => ?_)
          · refine jblk hF [(.aload_n 0, 1), (.dup, 1)] (by decide +kernel) (pc' := 81) (lo' := [(2, (0, v_3)), (0, (2, 7)), (1, (0, d))]) (st' := [(2, 7), (2, 7)]) rfl ?_
            refine jget hF 6 1 0 1 rfl (by decide) (by decide) rfl wd_171 (by decide +kernel) (by first | assumption | omega) ?_
            refine jblk hF [(.iconst 1, 1), (.iadd, 1)] (by decide +kernel) (pc' := 86) (lo' := [(2, (0, v_3)), (0, (2, 7)), (1, (0, d))]) (st' := [(0, (m_1 7 1) + 1), (2, 7)]) rfl ?_
            refine jput hF 6 1 0 1 rfl (by decide) (by decide) rfl wd_171 (by decide +kernel) rfl (Or.inl rfl) (by first | assumption | omega) (fun h => by cases h) ?_
            refine jblk hF [(.iload_n 2, 1), (.bipush 110, 2)] (by decide +kernel) (pc' := 92) (lo' := [(2, (0, v_3)), (0, (2, 7)), (1, (0, d))]) (st' := [(0, 110), (0, v_3)]) rfl ?_
            refine jicmp_ne hF (off := 8) 100 (by decide +kernel) (by decide) (by omega) (by decide) (fun h_27 => ?_) (fun h_27 => ?_)
            · refine jblk hF [(.iload_n 2, 1), (.bipush 98, 2)] (by decide +kernel) (pc' := 103) (lo' := [(2, (0, v_3)), (0, (2, 7)), (1, (0, d))]) (st' := [(0, 98), (0, v_3)]) rfl ?_
              refine jicmp_ne hF (off := 10) 113 (by decide +kernel) (by decide) (by omega) (by decide) (fun h_28 => ?_) (fun h_28 => ?_)
              · refine jblk hF [(.aload_n 0, 1)] (by decide +kernel) (pc' := 114) (lo' := [(2, (0, v_3)), (0, (2, 7)), (1, (0, d))]) (st' := [(2, 7)]) rfl ?_
                refine jget hF 6 5 1 5 rfl (by decide) (by decide) rfl wd_175 (by decide +kernel) (by first | assumption | omega) ?_
                rw [show (set2 m_1 7 1 ((m_1 7 1) + 1)) 7 5 = m_1 7 5 from (s2_k (by decide))]
                refine jlret hF hr (by decide +kernel) ?_
                exact lMR (by exact atom_var hq (by omega) (by omega) rfl (by first | (exfalso; omega) | (rw [hq.2, upR_o (by omega)]; unfold envR; first | (rw [if_pos (by omega)]; done) | (rw [if_neg (by omega), if_pos (by omega)]; done) | (rw [if_neg (by omega), if_neg (by omega)]; done))) hEB)
              · refine jblk hF [(.aload_n 0, 1)] (by decide +kernel) (pc' := 107) (lo' := [(2, (0, v_3)), (0, (2, 7)), (1, (0, d))]) (st' := [(2, 7)]) rfl ?_
                refine jget hF 6 4 1 4 rfl (by decide) (by decide) rfl wd_174 (by decide +kernel) (by first | assumption | omega) ?_
                rw [show (set2 m_1 7 1 ((m_1 7 1) + 1)) 7 4 = m_1 7 4 from (s2_k (by decide))]
                refine jgoto hF (off := 7) 117 (by decide +kernel) (by decide) ?_
                refine jlret hF hr (by decide +kernel) ?_
                exact lMR (by exact atom_var hq (by omega) (by omega) rfl (by first | (exfalso; omega) | (rw [hq.2, upR_o (by omega)]; unfold envR; first | (rw [if_pos (by omega)]; done) | (rw [if_neg (by omega), if_pos (by omega)]; done) | (rw [if_neg (by omega), if_neg (by omega)]; done))) hEB)
            · refine jblk hF [(.aload_n 0, 1)] (by decide +kernel) (pc' := 96) (lo' := [(2, (0, v_3)), (0, (2, 7)), (1, (0, d))]) (st' := [(2, 7)]) rfl ?_
              refine jget hF 6 3 1 3 rfl (by decide) (by decide) rfl wd_173 (by decide +kernel) (by first | assumption | omega) ?_
              rw [show (set2 m_1 7 1 ((m_1 7 1) + 1)) 7 3 = m_1 7 3 from (s2_k (by decide))]
              refine jlret hF hr (by decide +kernel) ?_
              exact lMR (by exact atom_var hq (by omega) (by omega) rfl (by first | (exfalso; omega) | (rw [hq.2, upR_o (by omega)]; unfold envR; first | (rw [if_pos (by omega)]; done) | (rw [if_neg (by omega), if_pos (by omega)]; done) | (rw [if_neg (by omega), if_neg (by omega)]; done))) hEB)
          · refine jblk hF [(.iload_n 2, 1), (.bipush 120, 2)] (by decide +kernel) (pc' := 70) (lo' := [(2, (0, v_3)), (0, (2, 7)), (1, (0, d))]) (st' := [(0, 120), (0, v_3)]) rfl ?_
            refine jicmp_eq hF (off := 9) 79 (by decide +kernel) (by decide) (by omega) (by decide) (fun h_29 => ?_) (fun h_29 => ?_)
            · refine jblk hF [(.aload_n 0, 1), (.dup, 1)] (by decide +kernel) (pc' := 81) (lo' := [(2, (0, v_3)), (0, (2, 7)), (1, (0, d))]) (st' := [(2, 7), (2, 7)]) rfl ?_
              refine jget hF 6 1 0 1 rfl (by decide) (by decide) rfl wd_171 (by decide +kernel) (by first | assumption | omega) ?_
              refine jblk hF [(.iconst 1, 1), (.iadd, 1)] (by decide +kernel) (pc' := 86) (lo' := [(2, (0, v_3)), (0, (2, 7)), (1, (0, d))]) (st' := [(0, (m_1 7 1) + 1), (2, 7)]) rfl ?_
              refine jput hF 6 1 0 1 rfl (by decide) (by decide) rfl wd_171 (by decide +kernel) rfl (Or.inl rfl) (by first | assumption | omega) (fun h => by cases h) ?_
              refine jblk hF [(.iload_n 2, 1), (.bipush 110, 2)] (by decide +kernel) (pc' := 92) (lo' := [(2, (0, v_3)), (0, (2, 7)), (1, (0, d))]) (st' := [(0, 110), (0, v_3)]) rfl ?_
              refine jicmp_ne hF (off := 8) 100 (by decide +kernel) (by decide) (by omega) (by decide) (fun h_30 => ?_) (fun h_30 => ?_)
              · refine jblk hF [(.iload_n 2, 1), (.bipush 98, 2)] (by decide +kernel) (pc' := 103) (lo' := [(2, (0, v_3)), (0, (2, 7)), (1, (0, d))]) (st' := [(0, 98), (0, v_3)]) rfl ?_
                refine jicmp_ne hF (off := 10) 113 (by decide +kernel) (by decide) (by omega) (by decide) (fun h_31 => ?_) (fun h_31 => ?_)
                · refine jblk hF [(.aload_n 0, 1)] (by decide +kernel) (pc' := 114) (lo' := [(2, (0, v_3)), (0, (2, 7)), (1, (0, d))]) (st' := [(2, 7)]) rfl ?_
                  refine jget hF 6 5 1 5 rfl (by decide) (by decide) rfl wd_175 (by decide +kernel) (by first | assumption | omega) ?_
                  rw [show (set2 m_1 7 1 ((m_1 7 1) + 1)) 7 5 = m_1 7 5 from (s2_k (by decide))]
                  refine jlret hF hr (by decide +kernel) ?_
                  exact lMR (by exact atom_var hq (by omega) (by omega) rfl (by first | (exfalso; omega) | (rw [hq.2, upR_o (by omega)]; unfold envR; first | (rw [if_pos (by omega)]; done) | (rw [if_neg (by omega), if_pos (by omega)]; done) | (rw [if_neg (by omega), if_neg (by omega)]; done))) hEB)
                · refine jblk hF [(.aload_n 0, 1)] (by decide +kernel) (pc' := 107) (lo' := [(2, (0, v_3)), (0, (2, 7)), (1, (0, d))]) (st' := [(2, 7)]) rfl ?_
                  refine jget hF 6 4 1 4 rfl (by decide) (by decide) rfl wd_174 (by decide +kernel) (by first | assumption | omega) ?_
                  rw [show (set2 m_1 7 1 ((m_1 7 1) + 1)) 7 4 = m_1 7 4 from (s2_k (by decide))]
                  refine jgoto hF (off := 7) 117 (by decide +kernel) (by decide) ?_
                  refine jlret hF hr (by decide +kernel) ?_
                  exact lMR (by exact atom_var hq (by omega) (by omega) rfl (by first | (exfalso; omega) | (rw [hq.2, upR_o (by omega)]; unfold envR; first | (rw [if_pos (by omega)]; done) | (rw [if_neg (by omega), if_pos (by omega)]; done) | (rw [if_neg (by omega), if_neg (by omega)]; done))) hEB)
              · refine jblk hF [(.aload_n 0, 1)] (by decide +kernel) (pc' := 96) (lo' := [(2, (0, v_3)), (0, (2, 7)), (1, (0, d))]) (st' := [(2, 7)]) rfl ?_
                refine jget hF 6 3 1 3 rfl (by decide) (by decide) rfl wd_173 (by decide +kernel) (by first | assumption | omega) ?_
                rw [show (set2 m_1 7 1 ((m_1 7 1) + 1)) 7 3 = m_1 7 3 from (s2_k (by decide))]
                refine jlret hF hr (by decide +kernel) ?_
                exact lMR (by exact atom_var hq (by omega) (by omega) rfl (by first | (exfalso; omega) | (rw [hq.2, upR_o (by omega)]; unfold envR; first | (rw [if_pos (by omega)]; done) | (rw [if_neg (by omega), if_pos (by omega)]; done) | (rw [if_neg (by omega), if_neg (by omega)]; done))) hEB)
            · refine jblk hF [(.aload_n 0, 1)] (by decide +kernel) (pc' := 74) (lo' := [(2, (0, v_3)), (0, (2, 7)), (1, (0, d))]) (st' := [(2, 7)]) rfl ?_
              refine jcallV hF (c_X5_refuse hG (by exact t) (by exact r) (by exact T) (by exact L) (by assumption) (by omega) (by omega)) MW_X5_refuse 6 (by decide) (by first | assumption | omega) wd_587 wd_589 wd_p7 (by decide +kernel) [] rfl rfl (rmI (by omega) (by decide)) (Nat.le_of_ble_eq_true rfl) ⟨Nat.le_of_ble_eq_true rfl, Nat.le_of_ble_eq_true rfl⟩ (kMV (fun m_32 h_33 => ?_))
              have hq5 := h_33
              refine jlconst hF (n := 0) 0 rfl (by decide +kernel) ?_
              refine jlret hF hr (by decide +kernel) ?_
              exact lMR (by exact atom_ref hq hq5 ha (by omega) (by omega) (fun q1 => by omega))
      · have hw1 : mem 7 2 = -1 := by omega
        have e3 : m_1 7 1 = skp T L (mem 7 1) := by rw [e1, hw1]; exact nsA_in
        have hvc := hyes hw1
        have hlt := chr_lt T (by omega : chr T L (skp T L (mem 7 1)) ≠ -1)
        have hb := ha hw1
        have hinn : innP T L u = sumP T L (u - 1) := by cases u with | zero => omega | succ u2 => rfl
        refine jblk hF [(.aload_n 0, 1), (.dup, 1)] (by decide +kernel) (pc' := 31) (lo' := [(2, (0, v_3)), (0, (2, 7)), (1, (0, d))]) (st' := [(2, 7), (2, 7)]) rfl ?_
        refine jget hF 6 1 0 1 rfl (by decide) (by decide) rfl wd_171 (by decide +kernel) (by first | assumption | omega) ?_
        refine jblk hF [(.iconst 1, 1), (.iadd, 1)] (by decide +kernel) (pc' := 36) (lo' := [(2, (0, v_3)), (0, (2, 7)), (1, (0, d))]) (st' := [(0, (m_1 7 1) + 1), (2, 7)]) rfl ?_
        refine jput hF 6 1 0 1 rfl (by decide) (by decide) rfl wd_171 (by decide +kernel) rfl (Or.inl rfl) (by first | assumption | omega) (fun h => by cases h) ?_
        have hS : (set2 m_1 7 1 ((m_1 7 1) + 1)) = upR mem (skp T L (mem 7 1) + 1) (-1) := by rw [e3, hA hw1, upR_s1]
        refine jblk hF [(.aload_n 0, 1), (.iload_n 1, 1), (.iconst 1, 1), (.iadd, 1)] (by decide +kernel) (pc' := 43) (lo' := [(2, (0, v_3)), (0, (2, 7)), (1, (0, d))]) (st' := [(0, d + 1), (2, 7)]) rfl ?_
        refine jcallV hF (hsum (u - 1) (set2 m_1 7 1 ((m_1 7 1) + 1)) (d + 1) (by omega) (by rw [hS]; exact hRD.up) (by rw [hS]; exact hEB.up) (by rw [hS, upR_1, upR_2]; omega) (by rw [hS, upR_2]; exact ⟨by decide, by decide⟩) (by omega)) MW_X5_sum 6 (by decide) (by first | assumption | omega) wd_602 wd_604 wd_p10 (by decide +kernel) [] rfl rfl (rmI (by omega) (by decide)) (Nat.le_of_ble_eq_true rfl) ⟨Nat.le_of_ble_eq_true rfl, Nat.le_of_ble_eq_true rfl⟩ (kMR (fun v_36 m_34 h_35 => ?_))
        have hC := h_35.get (by rw [hS]; exact upR_2)
        rw [hS, upR_1] at hC
        have hC2 := hC.base
        have hRD4 := hC2.rd hRD
        have hgd := sumP_gd T L (u - 1) (skp T L (mem 7 1) + 1) (by omega) (by omega)
        have hsb : (sumP T L (u - 1) (skp T L (mem 7 1) + 1)).1 = -1 → 0 ≤ (sumP T L (u - 1) (skp T L (mem 7 1) + 1)).2.1 ∧ (sumP T L (u - 1) (skp T L (mem 7 1) + 1)).2.1 ≤ L := fun q1 => by have g1 := (hgd.1 q1).1; have g2 := (hgd.1 q1).2.1; omega
        have hwb : InI (m_34 7 2) := by rw [hC2.w]; by_cases q1 : (sumP T L (u - 1) (skp T L (mem 7 1) + 1)).1 = -1; (rw [q1]; exact ⟨by decide, by decide⟩); (have g3 := hgd.2 q1; exact ⟨by omega, by omega⟩)
        have hab : m_34 7 2 = -1 → 0 ≤ m_34 7 1 ∧ m_34 7 1 ≤ L + 1 := fun q1 => by rw [hC2.w] at q1; rw [hC2.a q1]; have g4 := hsb q1; omega
        refine jblk hF [(.lstore_n 3, 1), (.aload_n 0, 1), (.bipush 93, 2)] (by decide +kernel) (pc' := 50) (lo' := [(3, (1, v_36)), (2, (0, v_3)), (0, (2, 7)), (1, (0, d))]) (st' := [(0, 93), (2, 7)]) rfl ?_
        refine jcallV hF (c_X5_demand hG 93 (by exact t) (by exact r) (by exact T) (by exact L) (by assumption) (by omega) (by omega) (by decide)) MW_X5_demand 6 (by decide) (by first | assumption | omega) wd_591 wd_593 wd_p8 (by decide +kernel) [] rfl rfl (rmI (by omega) (by decide)) (Nat.le_of_ble_eq_true rfl) ⟨Nat.le_of_ble_eq_true rfl, Nat.le_of_ble_eq_true rfl⟩ (kMV (fun m_37 h_38 => ?_))
        have hD := hC2.dem (by decide) hsb h_38
        refine jblk hF [(.lload_n 3, 1)] (by decide +kernel) (pc' := 54) (lo' := [(3, (1, v_36)), (2, (0, v_3)), (0, (2, 7)), (1, (0, d))]) (st' := [(1, v_36)]) rfl ?_
        refine jlret hF hr (by decide +kernel) ?_
        exact lMR (by exact COM.ok hw1 (by rw [hat, at_in (by omega), hinn]; exact hD))
end
