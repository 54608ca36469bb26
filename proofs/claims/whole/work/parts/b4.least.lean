section
theorem LSC.rg {mem : Int → Int → Int} {p b q : Int} (hP : PGS mem) (h : LSC mem p b q) : RGS (leastS mem p b q) := by
  obtain ⟨h1, h2, h3⟩ := h
  have hp := hP.2.2 p h1.1 h1.2
  obtain ⟨-, -, -, -, L1, L2, -, -, o1, o2, -, -, -, -, m1, m2, -⟩ := hp
  have hbk := blks (L := mem 47 p) (m := mem 52 p) (by omega)
  rw [hbk] at h2
  have s := stV_in (L := mem 47 p) (m := mem 52 p) (b := b) (by omega) (by omega) (by omega)
  have hn : 0 ≤ blkN mem p b ∧ blkN mem p b ≤ 40 := by unfold blkN; split <;> omega
  exact leastS_rg hn ⟨by omega, by omega⟩ ⟨by omega, by omega⟩
set_option maxHeartbeats 4000000 in
set_option maxRecDepth 100000 in
theorem c_X11_least {l : Launch} {g : GP} (hG : GH g) {kd : Int → Nat} {ln : Int → Int} {mem : Int → Int → Int} {sz : Nat} (hK : HK kd ln) (hR : HR mem) (p b q : Int) (tg : Int → Int) (hI : INV kd ln mem sz tg) (h_p : InI p) (h_b : InI b) (h_q : InI q) : MT l g yX11_least cX11_least 4 (some .int) 12 0 0 [(2, 3), (0, p), (0, b), (0, q)] kd ln mem sz (pMR 0 (fun v mem' => HR mem' ∧ (SCE mem mem' ∧ (LSC mem p b q → v = (leastS mem p b q).1) ∧ (¬ LSC mem p b q → v = -1))) kd ln sz) := by
  refine MT_of hG (by decide +kernel) (Nat.le_of_ble_eq_true rfl) (fun z hF hr hn => ?_)
  obtain ⟨⟨q0, q1, q2, q3, q4, q5⟩, u0, u2, u46, u89, usz⟩ := hI.num
  refine jblk hF [(.aload_n 0, 1), (.iload_n 1, 1), (.iload_n 2, 1), (.iload_n 3, 1)] (by decide +kernel) (pc' := 4) (lo' := [(0, (2, 3)), (1, (0, p)), (2, (0, b)), (3, (0, q))]) (st' := [(0, q), (0, b), (0, p), (2, 3)]) rfl ?_
  refine jcallV hF (c_X11_isExplained hG hK hR p b q (by exact tg) (by assumption) (by omega) (by omega) (by omega)) MW_X11_isExplained 12 (by decide) (by exact hK.k3) wd_1050 wd_1052 wd_p31 (by decide +kernel) [] rfl rfl (by decide) (Nat.le_of_ble_eq_true rfl) (by decide) (kMB (fun m_1 h_2 => ?_) (fun m_1 h_2 => ?_))
  · obtain ⟨hR_m_1, h_2⟩ := h_2
    have hx := h_2
    refine jif_eq hF (off := 13) 20 (by decide +kernel) (by decide) (by decide) (fun h => absurd h (by decide)) (fun _ => ?_)
    refine jblk hF [(.aload_n 0, 1)] (by decide +kernel) (pc' := 11) (lo' := [(0, (2, 3)), (1, (0, p)), (2, (0, b)), (3, (0, q))]) (st' := [(2, 3)]) rfl ?_
    refine jget hF 12 10 2 10 rfl (by decide) (by decide) rfl wd_336 (by decide +kernel) (by exact hK.k3) ?_
    rw [HR.r3_10 hR_m_1]
    refine jget hF 7 9 0 9 rfl (by decide) (by decide) rfl wd_230 (by decide +kernel) (by exact hK.k14) ?_
    refine jgoto hF (off := 4) 21 (by decide +kernel) (by decide) ?_
    refine jiret hF hr (by decide +kernel) ?_
    exact lMR ⟨hR_m_1, by first | exact ⟨hx.1, fun _ => (hx.2.2 trivial).1, fun u => absurd (hx.2.1.1 trivial).1 u⟩ | exact ⟨hx.1, fun u => by by_cases w : (leastS mem p b q).1 = -1; exact w.symm; exact absurd (hx.2.1.2 ⟨u, w⟩) id, fun _ => rfl⟩⟩
  · obtain ⟨hR_m_1, h_2⟩ := h_2
    have hx := h_2
    refine jif_eq hF (off := 13) 20 (by decide +kernel) (by decide) (by decide) (fun _ => ?_) (fun h => absurd h (by decide))
    refine jblk hF [(.iconst (-1), 1)] (by decide +kernel) (pc' := 21) (lo' := [(0, (2, 3)), (1, (0, p)), (2, (0, b)), (3, (0, q))]) (st' := [(0, (-1))]) rfl ?_
    refine jiret hF hr (by decide +kernel) ?_
    exact lMR ⟨hR_m_1, by first | exact ⟨hx.1, fun _ => (hx.2.2 trivial).1, fun u => absurd (hx.2.1.1 trivial).1 u⟩ | exact ⟨hx.1, fun u => by by_cases w : (leastS mem p b q).1 = -1; exact w.symm; exact absurd (hx.2.1.2 ⟨u, w⟩) id, fun _ => rfl⟩⟩
set_option maxHeartbeats 4000000 in
set_option maxRecDepth 100000 in
theorem c_X11_ways {l : Launch} {g : GP} (hG : GH g) {kd : Int → Nat} {ln : Int → Int} {mem : Int → Int → Int} {sz : Nat} (hK : HK kd ln) (hR : HR mem) (p b q : Int) (tg : Int → Int) (hI : INV kd ln mem sz tg) (h_p : InI p) (h_b : InI b) (h_q : InI q) : MT l g yX11_ways cX11_ways 4 (some .int) 12 0 0 [(2, 3), (0, p), (0, b), (0, q)] kd ln mem sz (pMR 0 (fun v mem' => HR mem' ∧ (SCE mem mem' ∧ (LSC mem p b q → v = (if (leastS mem p b q).1 = -1 then -1 else (leastS mem p b q).2.1)) ∧ (¬ LSC mem p b q → v = -1))) kd ln sz) := by
  refine MT_of hG (by decide +kernel) (Nat.le_of_ble_eq_true rfl) (fun z hF hr hn => ?_)
  obtain ⟨⟨q0, q1, q2, q3, q4, q5⟩, u0, u2, u46, u89, usz⟩ := hI.num
  refine jblk hF [(.aload_n 0, 1), (.iload_n 1, 1), (.iload_n 2, 1), (.iload_n 3, 1)] (by decide +kernel) (pc' := 4) (lo' := [(0, (2, 3)), (1, (0, p)), (2, (0, b)), (3, (0, q))]) (st' := [(0, q), (0, b), (0, p), (2, 3)]) rfl ?_
  refine jcallV hF (c_X11_isExplained hG hK hR p b q (by exact tg) (by assumption) (by omega) (by omega) (by omega)) MW_X11_isExplained 12 (by decide) (by exact hK.k3) wd_1050 wd_1052 wd_p31 (by decide +kernel) [] rfl rfl (by decide) (Nat.le_of_ble_eq_true rfl) (by decide) (kMB (fun m_1 h_2 => ?_) (fun m_1 h_2 => ?_))
  · obtain ⟨hR_m_1, h_2⟩ := h_2
    have hx := h_2
    refine jif_eq hF (off := 13) 20 (by decide +kernel) (by decide) (by decide) (fun h => absurd h (by decide)) (fun _ => ?_)
    refine jblk hF [(.aload_n 0, 1)] (by decide +kernel) (pc' := 11) (lo' := [(0, (2, 3)), (1, (0, p)), (2, (0, b)), (3, (0, q))]) (st' := [(2, 3)]) rfl ?_
    refine jget hF 12 10 2 10 rfl (by decide) (by decide) rfl wd_336 (by decide +kernel) (by exact hK.k3) ?_
    rw [HR.r3_10 hR_m_1]
    refine jget hF 7 10 0 10 rfl (by decide) (by decide) rfl wd_232 (by decide +kernel) (by exact hK.k14) ?_
    refine jgoto hF (off := 4) 21 (by decide +kernel) (by decide) ?_
    refine jiret hF hr (by decide +kernel) ?_
    exact lMR ⟨hR_m_1, by first | exact ⟨hx.1, fun _ => ((hx.2.2 trivial).2.1).trans (if_neg (hx.2.1.1 trivial).2).symm, fun u => absurd (hx.2.1.1 trivial).1 u⟩ | exact ⟨hx.1, fun u => by by_cases w : (leastS mem p b q).1 = -1; exact (if_pos w).symm; exact absurd (hx.2.1.2 ⟨u, w⟩) id, fun _ => rfl⟩⟩
  · obtain ⟨hR_m_1, h_2⟩ := h_2
    have hx := h_2
    refine jif_eq hF (off := 13) 20 (by decide +kernel) (by decide) (by decide) (fun _ => ?_) (fun h => absurd h (by decide))
    refine jblk hF [(.iconst (-1), 1)] (by decide +kernel) (pc' := 21) (lo' := [(0, (2, 3)), (1, (0, p)), (2, (0, b)), (3, (0, q))]) (st' := [(0, (-1))]) rfl ?_
    refine jiret hF hr (by decide +kernel) ?_
    exact lMR ⟨hR_m_1, by first | exact ⟨hx.1, fun _ => ((hx.2.2 trivial).2.1).trans (if_neg (hx.2.1.1 trivial).2).symm, fun u => absurd (hx.2.1.1 trivial).1 u⟩ | exact ⟨hx.1, fun u => by by_cases w : (leastS mem p b q).1 = -1; exact (if_pos w).symm; exact absurd (hx.2.1.2 ⟨u, w⟩) id, fun _ => rfl⟩⟩
set_option maxHeartbeats 4000000 in
set_option maxRecDepth 100000 in
theorem c_X11_first {l : Launch} {g : GP} (hG : GH g) {kd : Int → Nat} {ln : Int → Int} {mem : Int → Int → Int} {sz : Nat} (hK : HK kd ln) (hR : HR mem) (p b q i w : Int) (tg : Int → Int) (hI : INV kd ln mem sz tg) (h_p : InI p) (h_b : InI b) (h_q : InI q) (h_i : InI i) (h_w : InI w) : MT l g yX11_first cX11_first 6 (some .long) 12 0 0 [(2, 3), (0, p), (0, b), (0, q), (0, i), (0, w)] kd ln mem sz (pMR 1 (fun v mem' => HR mem' ∧ (SCE mem mem' ∧ ((LSC mem p b q ∧ (leastS mem p b q).1 ≠ -1 ∧ 0 ≤ i ∧ i ≤ (leastS mem p b q).1 - 1 ∧ 0 ≤ w ∧ w ≤ 2) → v = (if w = 0 then (leastS mem p b q).2.2.1 i else if w = 1 then (leastS mem p b q).2.2.2.1 i else (leastS mem p b q).2.2.2.2 i)) ∧ (¬ (LSC mem p b q ∧ (leastS mem p b q).1 ≠ -1 ∧ 0 ≤ i ∧ i ≤ (leastS mem p b q).1 - 1 ∧ 0 ≤ w ∧ w ≤ 2) → v = -2000000000))) kd ln sz) := by
  refine MT_of hG (by decide +kernel) (Nat.le_of_ble_eq_true rfl) (fun z hF hr hn => ?_)
  obtain ⟨⟨q0, q1, q2, q3, q4, q5⟩, u0, u2, u46, u89, usz⟩ := hI.num
  refine jblk hF [(.aload_n 0, 1), (.iload_n 1, 1), (.iload_n 2, 1), (.iload_n 3, 1)] (by decide +kernel) (pc' := 4) (lo' := [(0, (2, 3)), (1, (0, p)), (2, (0, b)), (3, (0, q)), (4, (0, i)), (5, (0, w))]) (st' := [(0, q), (0, b), (0, p), (2, 3)]) rfl ?_
  refine jcallV hF (c_X11_isExplained hG hK hR p b q (by exact tg) (by assumption) (by omega) (by omega) (by omega)) MW_X11_isExplained 12 (by decide) (by exact hK.k3) wd_1050 wd_1052 wd_p31 (by decide +kernel) [] rfl rfl (by decide) (Nat.le_of_ble_eq_true rfl) (by decide) (kMB (fun m_1 h_2 => ?_) (fun m_1 h_2 => ?_))
  · obtain ⟨hR_m_1, h_2⟩ := h_2
    have hx := h_2
    refine jif_eq hF (off := 21) 28 (by decide +kernel) (by decide) (by decide) (fun h => absurd h (by decide)) (fun _ => ?_)
    obtain ⟨l1, l2, l3, l4, l5⟩ := hx.2.2 trivial
    have hlc := hx.2.1.1 trivial
    refine jblk hF [(.iload 4, 2), (.iconst 0, 1), (.aload_n 0, 1)] (by decide +kernel) (pc' := 14) (lo' := [(0, (2, 3)), (1, (0, p)), (2, (0, b)), (3, (0, q)), (4, (0, i)), (5, (0, w))]) (st' := [(2, 3), (0, 0), (0, i)]) rfl ?_
    refine jget hF 12 10 2 10 rfl (by decide) (by decide) rfl wd_336 (by decide +kernel) (by exact hK.k3) ?_
    rw [HR.r3_10 hR_m_1]
    refine jget hF 7 9 0 9 rfl (by decide) (by decide) rfl wd_230 (by decide +kernel) (by exact hK.k14) ?_
    refine jblk hF [(.iconst 1, 1), (.isub, 1)] (by decide +kernel) (pc' := 22) (lo' := [(0, (2, 3)), (1, (0, p)), (2, (0, b)), (3, (0, q)), (4, (0, i)), (5, (0, w))]) (st' := [(0, (m_1 14 9) - 1), (0, 0), (0, i)]) rfl ?_
    refine jcallS hF (c_X11_within hG i 0 ((m_1 14 9) - 1) (by omega) (by decide) (by omega)) MW_X11_within wd_391 wd_392 (by decide +kernel) [] rfl rfl (by decide) (Nat.le_of_ble_eq_true rfl) (by decide) (kB (fun h_4 => ?_) (fun h_4 => ?_))
    · refine jif_ne hF (off := 7) 32 (by decide +kernel) (by decide) (by decide) (fun _ => ?_) (fun h => absurd h (by decide))
      refine jblk hF [(.iload 5, 2)] (by decide +kernel) (pc' := 34) (lo' := [(0, (2, 3)), (1, (0, p)), (2, (0, b)), (3, (0, q)), (4, (0, i)), (5, (0, w))]) (st' := [(0, w)]) rfl ?_
      by_cases h_6 : w = 0
      · refine jtabIn hF (dflt := 61) (lo' := 0) (hi := 2) (offs := #[26, 38, 50]) (len := 26) 0 26 60 (by decide +kernel) h_6 (by decide) (by decide) (by decide) rfl (by decide) ?_
        have hij := l5 i (by omega) (by omega)
        have hrg := hlc.1.rg hI.pgs i (by omega) (by omega)
        refine jblk hF [(.aload_n 0, 1)] (by decide +kernel) (pc' := 61) (lo' := [(0, (2, 3)), (1, (0, p)), (2, (0, b)), (3, (0, q)), (4, (0, i)), (5, (0, w))]) (st' := [(2, 3)]) rfl ?_
        refine jget hF 12 10 2 10 rfl (by decide) (by decide) rfl wd_336 (by decide +kernel) (by exact hK.k3) ?_
        rw [HR.r3_10 hR_m_1]
        refine jget hF 7 4 2 4 rfl (by decide) (by decide) rfl wd_222 (by decide +kernel) (by exact hK.k14) ?_
        rw [HR.r14_4 hR_m_1]
        refine jblk hF [(.iload 4, 2)] (by decide +kernel) (pc' := 69) (lo' := [(0, (2, 3)), (1, (0, p)), (2, (0, b)), (3, (0, q)), (4, (0, i)), (5, (0, w))]) (st' := [(0, i), (2, 19)]) rfl ?_
        refine jiald hF (by decide +kernel) (by exact hK.k19) (by omega) (by have := hK.l19; omega) ?_
        refine ji2l hF (by decide +kernel) (by omega) ?_
        refine jlret hF hr (by decide +kernel) ?_
        exact lMR ⟨hR_m_1, by exact ⟨hx.1, fun _ => hij.1.trans (if_pos (by omega)).symm, fun u => absurd ⟨hlc.1, hlc.2, by omega, by omega, by omega, by omega⟩ u⟩⟩
      by_cases h_7 : w = 1
      · refine jtabIn hF (dflt := 61) (lo' := 0) (hi := 2) (offs := #[26, 38, 50]) (len := 26) 1 38 72 (by decide +kernel) h_7 (by decide) (by decide) (by decide) rfl (by decide) ?_
        have hij := l5 i (by omega) (by omega)
        have hrg := hlc.1.rg hI.pgs i (by omega) (by omega)
        refine jblk hF [(.aload_n 0, 1)] (by decide +kernel) (pc' := 73) (lo' := [(0, (2, 3)), (1, (0, p)), (2, (0, b)), (3, (0, q)), (4, (0, i)), (5, (0, w))]) (st' := [(2, 3)]) rfl ?_
        refine jget hF 12 10 2 10 rfl (by decide) (by decide) rfl wd_336 (by decide +kernel) (by exact hK.k3) ?_
        rw [HR.r3_10 hR_m_1]
        refine jget hF 7 5 2 5 rfl (by decide) (by decide) rfl wd_224 (by decide +kernel) (by exact hK.k14) ?_
        rw [HR.r14_5 hR_m_1]
        refine jblk hF [(.iload 4, 2)] (by decide +kernel) (pc' := 81) (lo' := [(0, (2, 3)), (1, (0, p)), (2, (0, b)), (3, (0, q)), (4, (0, i)), (5, (0, w))]) (st' := [(0, i), (2, 20)]) rfl ?_
        refine jiald hF (by decide +kernel) (by exact hK.k20) (by omega) (by have := hK.l20; omega) ?_
        refine ji2l hF (by decide +kernel) (by omega) ?_
        refine jlret hF hr (by decide +kernel) ?_
        exact lMR ⟨hR_m_1, by exact ⟨hx.1, fun _ => hij.2.1.trans ((if_neg (by omega)).trans (if_pos (by omega))).symm, fun u => absurd ⟨hlc.1, hlc.2, by omega, by omega, by omega, by omega⟩ u⟩⟩
      by_cases h_8 : w = 2
      · refine jtabIn hF (dflt := 61) (lo' := 0) (hi := 2) (offs := #[26, 38, 50]) (len := 26) 2 50 84 (by decide +kernel) h_8 (by decide) (by decide) (by decide) rfl (by decide) ?_
        have hij := l5 i (by omega) (by omega)
        refine jblk hF [(.aload_n 0, 1)] (by decide +kernel) (pc' := 85) (lo' := [(0, (2, 3)), (1, (0, p)), (2, (0, b)), (3, (0, q)), (4, (0, i)), (5, (0, w))]) (st' := [(2, 3)]) rfl ?_
        refine jget hF 12 10 2 10 rfl (by decide) (by decide) rfl wd_336 (by decide +kernel) (by exact hK.k3) ?_
        rw [HR.r3_10 hR_m_1]
        refine jget hF 7 6 2 6 rfl (by decide) (by decide) rfl wd_226 (by decide +kernel) (by exact hK.k14) ?_
        rw [HR.r14_6 hR_m_1]
        refine jblk hF [(.iload 4, 2)] (by decide +kernel) (pc' := 93) (lo' := [(0, (2, 3)), (1, (0, p)), (2, (0, b)), (3, (0, q)), (4, (0, i)), (5, (0, w))]) (st' := [(0, i), (2, 21)]) rfl ?_
        refine jlald hF (by decide +kernel) (by exact hK.k21) (by omega) (by have := hK.l21; omega) ?_
        refine jlret hF hr (by decide +kernel) ?_
        exact lMR ⟨hR_m_1, by exact ⟨hx.1, fun _ => hij.2.2.trans ((if_neg (by omega)).trans (if_neg (by omega))).symm, fun u => absurd ⟨hlc.1, hlc.2, by omega, by omega, by omega, by omega⟩ u⟩⟩
      refine jtabOut hF (dflt := 61) (lo' := 0) (hi := 2) (offs := #[26, 38, 50]) (len := 26) 95 (by decide +kernel) (by omega) (by omega) (by decide) ?_
      have hng : ¬ (LSC mem p b q ∧ (leastS mem p b q).1 ≠ -1 ∧ 0 ≤ i ∧ i ≤ (leastS mem p b q).1 - 1 ∧ 0 ≤ w ∧ w ≤ 2) := fun u => by (have y := u.2.2.2.2; omega)
      refine jldc2 hF (-2000000000) (cst_l wd_1085 (by decide)) (by decide +kernel) ?_
      refine jlret hF hr (by decide +kernel) ?_
      exact lMR ⟨hR_m_1, by exact ⟨hx.1, fun u => absurd u hng, fun _ => rfl⟩⟩
    · refine jif_ne hF (off := 7) 32 (by decide +kernel) (by decide) (by decide) (fun h => absurd h (by decide)) (fun _ => ?_)
      have hng : ¬ (LSC mem p b q ∧ (leastS mem p b q).1 ≠ -1 ∧ 0 ≤ i ∧ i ≤ (leastS mem p b q).1 - 1 ∧ 0 ≤ w ∧ w ≤ 2) := by first | exact fun u => absurd (hx.2.1.2 ⟨u.1, u.2.1⟩) id | exact fun u => by (have y := u.2.2.1; have z := u.2.2.2.1; omega)
      refine jldc2 hF (-2000000000) (cst_l wd_1085 (by decide)) (by decide +kernel) ?_
      refine jlret hF hr (by decide +kernel) ?_
      exact lMR ⟨hR_m_1, by exact ⟨hx.1, fun u => absurd u hng, fun _ => rfl⟩⟩
  · obtain ⟨hR_m_1, h_2⟩ := h_2
    have hx := h_2
    refine jif_eq hF (off := 21) 28 (by decide +kernel) (by decide) (by decide) (fun _ => ?_) (fun h => absurd h (by decide))
    have hng : ¬ (LSC mem p b q ∧ (leastS mem p b q).1 ≠ -1 ∧ 0 ≤ i ∧ i ≤ (leastS mem p b q).1 - 1 ∧ 0 ≤ w ∧ w ≤ 2) := by first | exact fun u => absurd (hx.2.1.2 ⟨u.1, u.2.1⟩) id | exact fun u => by (have y := u.2.2.1; have z := u.2.2.2.1; omega)
    refine jldc2 hF (-2000000000) (cst_l wd_1085 (by decide)) (by decide +kernel) ?_
    refine jlret hF hr (by decide +kernel) ?_
    exact lMR ⟨hR_m_1, by exact ⟨hx.1, fun u => absurd u hng, fun _ => rfl⟩⟩
end
