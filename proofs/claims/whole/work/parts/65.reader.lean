section
/-! clauses, the whole text -/
theorem upR_6 {m : Int → Int → Int} {a w x : Int} : upR (set2 m 7 6 x) a w = set2 (upR m a w) 7 6 x := by
  funext b j
  show (if b = 7 ∧ j = 1 then a else if b = 7 ∧ j = 2 then w else if b = 7 ∧ j = 6 then x else m b j) = (if b = 7 ∧ j = 6 then x else if b = 7 ∧ j = 1 then a else if b = 7 ∧ j = 2 then w else m b j)
  by_cases h : b = 7 ∧ j = 6
  · rw [if_neg (by omega), if_neg (by omega), if_pos h, if_pos h]
  · rw [if_neg h, if_neg h]
theorem s26_26 {m : Int → Int → Int} {x y : Int} : set2 (set2 m 7 6 x) 7 6 y = set2 m 7 6 y := by
  funext b j
  unfold set2
  split <;> rfl
theorem envR_6 {m : Int → Int → Int} {x : Int} : envR (set2 m 7 6 x) = envR m := by
  funext c
  unfold envR
  rw [s2_k (by decide), s2_k (by decide), s2_k (by decide)]
theorem STT.s6 {kd : Int → Nat} {ln : Int → Int} {t r : Int} {T : Int → Int} {L x : Int} {mem : Int → Int → Int} (h : STT kd ln t r T L mem) : STT kd ln t r T L (set2 mem 7 6 x) := by
  obtain ⟨⟨h1, h2, h3, h4, h5, h6, h7, h8, h9, h10⟩, g2, g3, g4⟩ := h
  have ht : t ≠ 7 := fun q1 => by rw [q1, h1] at h3; omega
  have hr : r ≠ 7 := fun q1 => by rw [q1, h1] at h7; omega
  refine ⟨⟨h1, (s2_k (by decide)).trans h2, h3, h4, (s2_a ht).trans h5, (s2_a ht).trans h6, h7, h8, by rw [← h9]; funext j; exact s2_a hr, h10⟩, ?_, ?_, ?_⟩
  · show (_ ≤ set2 mem 7 6 x 7 3 ∧ _) ∧ (_ ≤ set2 mem 7 6 x 7 4 ∧ _) ∧ (_ ≤ set2 mem 7 6 x 7 5 ∧ _)
    rw [s2_k (by decide), s2_k (by decide), s2_k (by decide)]
    exact g2
  · rw [s2_k (by decide), s2_k (by decide)]; exact g3
  · rw [s2_k (by decide)]; exact g4
theorem unitP_sk {T : Int → Int} {L a : Int} {u : Nat} : unitP T L u (skp T L a) = unitP T L u a := by
  rw [unitP_eq]
  unfold unitW
  rw [skp_skp]
theorem condP_sk {T : Int → Int} {L a : Int} {u : Nat} : condP T L u (skp T L a) = condP T L u a := by
  rw [condP_eq]
  unfold opW
  have : partP T L u (skp T L a) = partP T L u a := by
    unfold partP opW
    rw [unitP_sk]
  rw [this]
/-- what a clause's reading leaves -/
def RCR (mem mm : Int → Int → Int) (cr : CR) (v sr : Int) : Prop :=
  (cr.1 = -1 → mm = set2 (upR mem cr.2.1 (-1)) 7 6 sr ∧ EV (envR mem) cr.2.2.2.1 v ∧ EV (envR mem) cr.2.2.2.2 sr) ∧ (cr.1 ≠ -1 → ∃ a' : Int, mm = set2 (upR mem a' cr.1) 7 6 sr)
def RCL (T : Int → Int) (L lab : Int) (mem mm : Int → Int → Int) (v sr : Int) : Prop :=
  (mem 7 2 = -1 → RCR mem mm (bodC T L lab (skp T L (mem 7 1))) v sr) ∧ (mem 7 2 ≠ -1 → ∃ a' : Int, mm = set2 (upR mem a' (mem 7 2)) 7 6 sr)
theorem rc_tail {mem B m m5 m6 m7 : Int → Int → Int} {T : Int → Int} {L lab a1 h sr y : Int} (hB : B = mem ∨ B = set2 mem 7 6 y) (hm : m = upR B a1 (-1)) (ha : 0 ≤ a1 ∧ a1 ≤ L) (hC : COM m m5 (condP T L 6) h)
    (hd : m6 = (if nsV T L (m5 7 1) (m5 7 2) = 63 then upR m5 (nsA T L (m5 7 1) (m5 7 2) + 1) (m5 7 2) else upR m5 (nsA T L (m5 7 1) (m5 7 2) + 1) (rfW L (nsA T L (m5 7 1) (m5 7 2)) (m5 7 2)))) (hS : COM m6 m7 (sumP T L 6) sr) : RCR mem (set2 m7 7 6 sr) (finC T L lab (condP T L 6 a1)) h sr := by
  have hb6 : ∀ a w x : Int, set2 (upR B a w) 7 6 x = set2 (upR mem a w) 7 6 x := by
    intro a w x
    rcases hB with rfl | rfl
    · rfl
    · rw [upR_6, s26_26]
  have hbe : envR B = envR mem := by
    rcases hB with rfl | rfl
    · rfl
    · exact envR_6
  have g1 := hC.get (by rw [hm]; exact upR_2)
  rw [hm, upR_1] at g1
  have g2 := g1.base
  have gg := condP_gd T L 6 a1 ha.1 ha.2
  by_cases e : (condP T L 6 a1).1 = -1
  · obtain ⟨x1, x2⟩ := g2.2.1 e
    obtain ⟨y1, y2, y3⟩ := gg.1 e
    have w1 : m5 7 2 = -1 := g2.w.trans e
    have w2 := g2.a e
    rw [w1, w2, nsV_in, nsA_in] at hd
    have hk := skp_f T L (condP T L 6 a1).2.1
    have hk2 := hk.2.1 y2
    by_cases q : chr T L (skp T L (condP T L 6 a1).2.1) = 63
    · rw [if_pos q, x1, upR_up] at hd
      have hlt : skp T L (condP T L 6 a1).2.1 < L := chr_lt T (by omega)
      have k1 := hS.get (by rw [hd]; exact upR_2)
      rw [hd, upR_1] at k1
      have k2 := k1.base
      have e3 : finC T L lab (condP T L 6 a1) = (if (sumP T L 6 (skp T L (condP T L 6 a1).2.1 + 1)).1 ≠ -1 then erC (sumP T L 6 (skp T L (condP T L 6 a1).2.1 + 1)).1 else (-1, (sumP T L 6 (skp T L (condP T L 6 a1).2.1 + 1)).2.1, lab, (condP T L 6 a1).2.2, (sumP T L 6 (skp T L (condP T L 6 a1).2.1 + 1)).2.2)) := by
        unfold finC
        rw [if_neg (by omega), if_neg (by omega)]
      rw [e3]
      by_cases e2 : (sumP T L 6 (skp T L (condP T L 6 a1).2.1 + 1)).1 = -1
      · rw [if_neg (by omega)]
        obtain ⟨z1, z2⟩ := k2.2.1 e2
        refine ⟨fun _ => ⟨by rw [z1]; exact hb6 _ _ _, by rw [← hbe]; exact x2, by rw [← hbe]; exact z2⟩, fun q => absurd rfl q⟩
      · rw [if_pos e2]
        obtain ⟨a', z1⟩ := k2.2.2 e2
        exact ⟨fun q => absurd q e2, fun _ => ⟨a', by rw [z1]; exact hb6 _ _ _⟩⟩
    · rw [if_neg q, rfW_in hk2, x1, upR_up] at hd
      have e3 : finC T L lab (condP T L 6 a1) = erC (skp T L (condP T L 6 a1).2.1) := by
        unfold finC
        rw [if_neg (by omega), if_pos q]
      rw [e3]
      have w3 : m6 7 2 = skp T L (condP T L 6 a1).2.1 := by rw [hd]; exact upR_2
      obtain ⟨a', z1⟩ := hS.bad (by omega)
      rw [w3, hd, upR_up] at z1
      refine ⟨fun q => ?_, fun _ => ⟨a', by rw [z1]; exact hb6 _ _ _⟩⟩
      have : skp T L (condP T L 6 a1).2.1 = -1 := q
      omega
  · obtain ⟨a', x1⟩ := g2.2.2 e
    have w1 : m5 7 2 = (condP T L 6 a1).1 := g2.w
    have ne : m5 7 2 ≠ -1 := by rw [w1]; exact e
    rw [if_neg (by rw [nsV_no ne]; decide), rfW_no ne, x1, upR_up, upR_2] at hd
    have w3 : m6 7 2 = (condP T L 6 a1).1 := by rw [hd]; exact upR_2
    obtain ⟨a2', z1⟩ := hS.bad (by rw [w3]; exact e)
    rw [w3, hd, upR_up] at z1
    have e3 : finC T L lab (condP T L 6 a1) = erC (condP T L 6 a1).1 := by
      unfold finC
      rw [if_pos e]
    rw [e3]
    exact ⟨fun q => absurd q e, fun _ => ⟨a2', by rw [z1]; exact hb6 _ _ _⟩⟩
/-- a sum and no sign behind it -/
theorem rc_sum {mem m m2 m3 : Int → Int → Int} {T : Int → Int} {L lab v0 s v2 : Int} (hq : v0 = nsV T L (mem 7 1) (mem 7 2) ∧ m = upR mem (nsA T L (mem 7 1) (mem 7 2)) (mem 7 2)) (hn : ¬ (v0 = 33 ∨ v0 = 40)) (ha : mem 7 2 = -1 → 0 ≤ mem 7 1 ∧ mem 7 1 ≤ L) (hS : COM m m2 (sumP T L 6) s)
    (hq3 : v2 = nsV T L (set2 m2 7 6 s 7 1) (set2 m2 7 6 s 7 2) ∧ m3 = upR (set2 m2 7 6 s) (nsA T L (set2 m2 7 6 s 7 1) (set2 m2 7 6 s 7 2)) (set2 m2 7 6 s 7 2)) (hns : ¬ isSg v2) : RCL T L lab mem m3 1 s := by
  rw [s2_k (by decide), s2_k (by decide)] at hq3
  obtain ⟨p1, p2⟩ := hq3
  refine ⟨fun hw => ?_, fun hw => ?_⟩
  · obtain ⟨a1, a2, a3, a4⟩ := look_ok hq hw
    have hb := ha hw
    have hsk := skp_f T L (mem 7 1)
    have hs2 := hsk.2.1 hb.2
    have g1 := hS.get a4
    rw [a3, a2] at g1
    have g2 := g1.base
    by_cases e : (sumP T L 6 (skp T L (mem 7 1))).1 = -1
    · obtain ⟨x1, x2⟩ := g2.2.1 e
      have w1 : m2 7 2 = -1 := g2.w.trans e
      have w2 := g2.a e
      rw [w1, w2, nsV_in] at p1
      rw [w1, w2, nsA_in, upR_6, x1, upR_up] at p2
      have e3 : bodC T L lab (skp T L (mem 7 1)) = (-1, skp T L (sumP T L 6 (skp T L (mem 7 1))).2.1, lab, [0, 1], (sumP T L 6 (skp T L (mem 7 1))).2.2) := by
        unfold bodC
        rw [if_neg (by omega), if_neg (by omega), if_neg (by rw [← p1]; exact hns)]
      rw [e3]
      exact ⟨fun _ => ⟨p2, EV.num ⟨by decide, by decide⟩, x2⟩, fun q => absurd rfl q⟩
    · obtain ⟨a', x1⟩ := g2.2.2 e
      have w1 : m2 7 2 = (sumP T L 6 (skp T L (mem 7 1))).1 := g2.w
      rw [w1, upR_6, x1, upR_up] at p2
      have e3 : bodC T L lab (skp T L (mem 7 1)) = erC (sumP T L 6 (skp T L (mem 7 1))).1 := by
        unfold bodC
        rw [if_neg (by omega), if_pos e]
      rw [e3]
      exact ⟨fun q => absurd q e, fun _ => ⟨_, p2⟩⟩
  · obtain ⟨a1, rfl⟩ := look_no hq hw
    obtain ⟨a', x1⟩ := hS.bad hw
    have w1 : m2 7 2 = m 7 2 := by rw [x1]; exact upR_2
    rw [w1, upR_6, x1, upR_up] at p2
    exact ⟨_, p2⟩
/-- a sum with a sign behind it: the state from which it is read again -/
theorem rc_back {mem m m2 m3 : Int → Int → Int} {T : Int → Int} {L lab v0 s v2 : Int} (hq : v0 = nsV T L (mem 7 1) (mem 7 2) ∧ m = upR mem (nsA T L (mem 7 1) (mem 7 2)) (mem 7 2)) (hn : ¬ (v0 = 33 ∨ v0 = 40)) (ha : mem 7 2 = -1 → 0 ≤ mem 7 1 ∧ mem 7 1 ≤ L) (hS : COM m m2 (sumP T L 6) s)
    (hq3 : v2 = nsV T L (set2 m2 7 6 s 7 1) (set2 m2 7 6 s 7 2) ∧ m3 = upR (set2 m2 7 6 s) (nsA T L (set2 m2 7 6 s 7 1) (set2 m2 7 6 s 7 2)) (set2 m2 7 6 s 7 2)) (hns : isSg v2) : mem 7 2 = -1 ∧ set2 m3 7 1 (mem 7 1) = upR (set2 mem 7 6 s) (mem 7 1) (-1) ∧ bodC T L lab (skp T L (mem 7 1)) = finC T L lab (condP T L 6 (mem 7 1)) := by
  rw [s2_k (by decide), s2_k (by decide)] at hq3
  obtain ⟨p1, p2⟩ := hq3
  have hw1 : m2 7 2 = -1 := by
    by_cases q : m2 7 2 = -1
    · exact q
    · rw [nsV_no q] at p1; omega
  have hw : mem 7 2 = -1 := by
    by_cases hw : mem 7 2 = -1
    · exact hw
    · obtain ⟨a1, rfl⟩ := look_no hq hw
      obtain ⟨a', x1⟩ := hS.bad hw
      have w1 : m2 7 2 = m 7 2 := by rw [x1]; exact upR_2
      exact absurd (w1.symm.trans hw1) hw
  obtain ⟨a1, a2, a3, a4⟩ := look_ok hq hw
  have hb := ha hw
  have hsk := skp_f T L (mem 7 1)
  have hs2 := hsk.2.1 hb.2
  have g1 := hS.get a4
  rw [a3, a2] at g1
  have g2 := g1.base
  have e : (sumP T L 6 (skp T L (mem 7 1))).1 = -1 := g2.w.symm.trans hw1
  obtain ⟨x1, x2⟩ := g2.2.1 e
  have w2 := g2.a e
  rw [hw1, w2, nsV_in] at p1
  rw [hw1, w2, nsA_in, x1] at p2
  refine ⟨hw, ?_, ?_⟩
  · rw [p2, upR_s1, upR_6, upR_up, ← upR_6]
  · unfold bodC
    rw [condP_sk]
    by_cases q : chr T L (skp T L (mem 7 1)) = 33 ∨ chr T L (skp T L (mem 7 1)) = 40
    · rw [if_pos q]
    · rw [if_neg q, if_neg (by omega), if_pos (by rw [← p1]; exact hns)]
theorem rc_open {mem m : Int → Int → Int} {T : Int → Int} {L lab v0 : Int} (hq : v0 = nsV T L (mem 7 1) (mem 7 2) ∧ m = upR mem (nsA T L (mem 7 1) (mem 7 2)) (mem 7 2)) (hn : v0 = 33 ∨ v0 = 40) (ha : mem 7 2 = -1 → 0 ≤ mem 7 1 ∧ mem 7 1 ≤ L) : mem 7 2 = -1 ∧ m = upR mem (skp T L (mem 7 1)) (-1) ∧ (0 ≤ skp T L (mem 7 1) ∧ skp T L (mem 7 1) ≤ L) ∧ bodC T L lab (skp T L (mem 7 1)) = finC T L lab (condP T L 6 (skp T L (mem 7 1))) := by
  have hw := look_yes hq (by omega)
  obtain ⟨a1, a2, a3, a4⟩ := look_ok hq hw
  have hb := ha hw
  have hsk := skp_f T L (mem 7 1)
  have hs2 := hsk.2.1 hb.2
  refine ⟨hw, a2, by omega, ?_⟩
  unfold bodC
  rw [if_pos (by omega)]
set_option maxHeartbeats 4000000 in
set_option maxRecDepth 100000 in
theorem c_X5_readsClause {l : Launch} {g : GP} (hG : GH g) {kd : Int → Nat} {ln : Int → Int} {mem : Int → Int → Int} {sz : Nat} (t : Int) (r : Int) (T : Int → Int) (L : Int) (hRD : RDX kd ln t r T L mem) (hEB : EB mem) (ha : mem 7 2 = -1 → 0 ≤ mem 7 1 ∧ mem 7 1 ≤ L) (hw : InI (mem 7 2)) (lab : Int) : MT l g yX5_readsClause cX5_readsClause 3 (some .boolean) (26) 0 0 [(2, 7)] kd ln mem sz (pMR 0 (fun v mem' => ((v = 0 ∨ v = 1) ∧ RCL T L lab mem mem' v (mem' 7 6) ∧ STT kd ln t r T L mem')) kd ln sz) := by
  refine MT_of hG (by decide +kernel) (Nat.le_of_ble_eq_true rfl) (fun z hF hr hn => ?_)
  have ⟨r1, r2, r3, r4, r5, r6, r7, r8, r9, r10, r11, r12, r13⟩ := hRD
  have ha9 : mem 7 2 = -1 → 0 ≤ mem 7 1 ∧ mem 7 1 ≤ L + 1 := by omega
  have hST0 : STT kd ln t r T L mem := ⟨hRD, hEB, ha, hw⟩
  have hLb := hST0.L
  refine jblk hF [(.aload_n 0, 1)] (by decide +kernel) (pc' := 1) (lo' := [(0, (2, 7))]) (st' := [(2, 7)]) rfl ?_
  refine jget hF 6 1 0 1 rfl (by decide) (by decide) rfl wd_171 (by decide +kernel) (by first | assumption | omega) ?_
  refine jblk hF [(.istore_n 1, 1), (.aload_n 0, 1)] (by decide +kernel) (pc' := 6) (lo' := [(1, (0, mem 7 1)), (0, (2, 7))]) (st' := [(2, 7)]) rfl ?_
  refine jcallV hF (c_X5_nextSign hG (by exact t) (by exact r) (by exact T) (by exact L) (by assumption) (by omega) (by omega)) MW_X5_nextSign 6 (by decide) (by first | assumption | omega) wd_580 wd_582 wd_p6 (by decide +kernel) [] rfl rfl (rmI (by omega) (by decide)) (Nat.le_of_ble_eq_true rfl) ⟨Nat.le_of_ble_eq_true rfl, Nat.le_of_ble_eq_true rfl⟩ (kMR (fun v_3 m_1 h_2 => ?_))
  have hq := h_2
  have hST1 := nS_st hST0 hq.2
  have hnv := nsV_bd hRD ha9
  have hvb : -2 ≤ v_3 ∧ v_3 ≤ 255 := by rw [hq.1]; exact hnv
  have hRDx1 := hST1.1
  have hax1 := hST1.2.2.1
  have hwx1 := hST1.2.2.2
  refine jcallS hF (c_X5_opensUnit hG v_3 (by omega)) MW_X5_opensUnit wd_599 wd_600 (by decide +kernel) [] rfl rfl (rmI (by omega) (by decide)) (Nat.le_of_ble_eq_true rfl) ⟨Nat.le_of_ble_eq_true rfl, Nat.le_of_ble_eq_true rfl⟩ (kB (fun h_4 => ?_) (fun h_4 => ?_))
  · refine jif_ne hF (off := 29) 41 (by decide +kernel) (by decide) (by decide) (fun _ => ?_) (fun h => absurd h (by decide))
    obtain ⟨B, y, a1, hB, hm41, ha1, hbod⟩ : ∃ (B : Int → Int → Int) (y a1 : Int), (B = mem ∨ B = set2 mem 7 6 y) ∧ m_1 = upR B a1 (-1) ∧ (0 ≤ a1 ∧ a1 ≤ L) ∧ mem 7 2 = -1 ∧ bodC T L lab (skp T L (mem 7 1)) = finC T L lab (condP T L 6 a1) := by
      first
      | exact ⟨_, _, _, Or.inr rfl, hbk.2.1, ha hbk.1, hbk.1, hbk.2.2⟩
      | (have ho := rc_open (lab := lab) hq (by omega) ha; exact ⟨_, 0, _, Or.inl rfl, ho.2.1, ho.2.2.1, ho.1, ho.2.2.2⟩)
    have hST5 : STT kd ln t r T L m_1 := by
      rw [hm41]
      rcases hB with rfl | rfl
      · exact hST0.up (fun _ => ha1) ⟨by decide, by decide⟩
      · exact hST0.s6.up (fun _ => ha1) ⟨by decide, by decide⟩
    refine jblk hF [(.aload_n 0, 1), (.iconst 0, 1)] (by decide +kernel) (pc' := 43) (lo' := [(1, (0, mem 7 1)), (0, (2, 7))]) (st' := [(0, 0), (2, 7)]) rfl ?_
    refine jcallV hF ((c_X5_ucA hG t r T L 6 (by omega)).2 m_1 0 (by exact hST5) (by omega)) MW_X5_condition 6 (by decide) (by first | assumption | omega) wd_646 wd_648 wd_p15 (by decide +kernel) [] rfl rfl (rmI (by omega) (by decide)) (Nat.le_of_ble_eq_true rfl) ⟨Nat.le_of_ble_eq_true rfl, Nat.le_of_ble_eq_true rfl⟩ (kMR (fun v_8 m_6 h_7 => ?_))
    have hC5 := h_7
    have hU1 := hC5.1
    have hST6 := hC5.2.st hST5 (condP_gd T L 6)
    have hRDx6 := hST6.1
    have hax6 := hST6.2.2.1
    have hwx6 := hST6.2.2.2
    refine jblk hF [(.istore_n 2, 1), (.aload_n 0, 1), (.bipush 63, 2)] (by decide +kernel) (pc' := 50) (lo' := [(2, (0, v_8)), (1, (0, mem 7 1)), (0, (2, 7))]) (st' := [(0, 63), (2, 7)]) rfl ?_
    have hax7 : m_6 7 2 = -1 → 0 ≤ m_6 7 1 ∧ m_6 7 1 ≤ L + 1 := fun q => by have := hax6 q; omega
    refine jcallV hF (c_X5_demand hG 63 (by exact t) (by exact r) (by exact T) (by exact L) (by assumption) (by omega) (by omega) (by decide)) MW_X5_demand 6 (by decide) (by first | assumption | omega) wd_591 wd_593 wd_p8 (by decide +kernel) [] rfl rfl (rmI (by omega) (by decide)) (Nat.le_of_ble_eq_true rfl) ⟨Nat.le_of_ble_eq_true rfl, Nat.le_of_ble_eq_true rfl⟩ (kMV (fun m_9 h_10 => ?_))
    have hd := h_10
    have hST7 := dem_st hST6 (fun q => by omega) (fun q => hd.trans (if_pos q)) (fun q => hd.trans (if_neg q))
    refine jblk hF [(.aload_n 0, 1), (.aload_n 0, 1), (.iconst 0, 1)] (by decide +kernel) (pc' := 56) (lo' := [(2, (0, v_8)), (1, (0, mem 7 1)), (0, (2, 7))]) (st' := [(0, 0), (2, 7), (2, 7)]) rfl ?_
    refine jcallV hF (c_X5_sumA hG t r T L 6 (by omega) m_9 0 (by exact hST7.1) (by exact hST7.2.1) (by exact hST7.2.2.1) (by exact hST7.2.2.2) (by omega)) MW_X5_sum 6 (by decide) (by first | assumption | omega) wd_602 wd_604 wd_p10 (by decide +kernel) [(2, 7)] rfl rfl (rmI (by omega) (by decide)) (Nat.le_of_ble_eq_true rfl) ⟨Nat.le_of_ble_eq_true rfl, Nat.le_of_ble_eq_true rfl⟩ (kMR (fun v_13 m_11 h_12 => ?_))
    have hS8 := h_12
    have hST8 := (hS8.st hST7 (sumP_gd T L 6)).s6 (x := v_13)
    refine jput hF 6 6 1 6 rfl (by decide) (by decide) rfl wd_176 (by decide +kernel) rfl (Or.inr (Or.inr (Or.inl rfl))) (by first | assumption | omega) (fun h => by cases h) ?_
    refine jblk hF [(.iload_n 2, 1)] (by decide +kernel) (pc' := 63) (lo' := [(2, (0, v_8)), (1, (0, mem 7 1)), (0, (2, 7))]) (st' := [(0, v_8)]) rfl ?_
    refine jzret hF hr (by omega) (by decide +kernel) ?_
    exact lMR (by exact ⟨hU1, ⟨fun _ => by rw [s2_s, hbod.2]; exact rc_tail hB hm41 ha1 hC5.2 hd hS8, fun q => absurd hbod.1 q⟩, hST8⟩)
  · refine jif_ne hF (off := 29) 41 (by decide +kernel) (by decide) (by decide) (fun h => absurd h (by decide)) (fun _ => ?_)
    refine jblk hF [(.aload_n 0, 1), (.aload_n 0, 1), (.iconst 0, 1)] (by decide +kernel) (pc' := 18) (lo' := [(1, (0, mem 7 1)), (0, (2, 7))]) (st' := [(0, 0), (2, 7), (2, 7)]) rfl ?_
    refine jcallV hF (c_X5_sumA hG t r T L 6 (by omega) m_1 0 (by exact hST1.1) (by exact hST1.2.1) (by exact hST1.2.2.1) (by exact hST1.2.2.2) (by omega)) MW_X5_sum 6 (by decide) (by first | assumption | omega) wd_602 wd_604 wd_p10 (by decide +kernel) [(2, 7)] rfl rfl (rmI (by omega) (by decide)) (Nat.le_of_ble_eq_true rfl) ⟨Nat.le_of_ble_eq_true rfl, Nat.le_of_ble_eq_true rfl⟩ (kMR (fun v_17 m_15 h_16 => ?_))
    have hS1 := h_16
    have hST2 := (hS1.st hST1 (sumP_gd T L 6)).s6 (x := v_17)
    have hRDx2 := hST2.1
    have hax2 := hST2.2.2.1
    have hwx2 := hST2.2.2.2
    refine jput hF 6 6 1 6 rfl (by decide) (by decide) rfl wd_176 (by decide +kernel) rfl (Or.inr (Or.inr (Or.inl rfl))) (by first | assumption | omega) (fun h => by cases h) ?_
    refine jblk hF [(.aload_n 0, 1)] (by decide +kernel) (pc' := 25) (lo' := [(1, (0, mem 7 1)), (0, (2, 7))]) (st' := [(2, 7)]) rfl ?_
    have hax3 : (set2 m_15 7 6 v_17) 7 2 = -1 → 0 ≤ (set2 m_15 7 6 v_17) 7 1 ∧ (set2 m_15 7 6 v_17) 7 1 ≤ L + 1 := fun q => by have := hax2 q; omega
    refine jcallV hF (c_X5_nextSign hG (by exact t) (by exact r) (by exact T) (by exact L) (by assumption) (by omega) (by omega)) MW_X5_nextSign 6 (by decide) (by first | assumption | omega) wd_580 wd_582 wd_p6 (by decide +kernel) [] rfl rfl (rmI (by omega) (by decide)) (Nat.le_of_ble_eq_true rfl) ⟨Nat.le_of_ble_eq_true rfl, Nat.le_of_ble_eq_true rfl⟩ (kMR (fun v_20 m_18 h_19 => ?_))
    have hq3 := h_19
    have hST3 := nS_st hST2 hq3.2
    have hvc : -2 ≤ v_20 ∧ v_20 ≤ 255 := by rw [hq3.1]; exact nsV_bd hRDx2 hax3
    refine jcallS hF (c_X5_compares hG v_20 (by omega)) MW_X5_compares wd_643 wd_644 (by decide +kernel) [] rfl rfl (rmI (by omega) (by decide)) (Nat.le_of_ble_eq_true rfl) ⟨Nat.le_of_ble_eq_true rfl, Nat.le_of_ble_eq_true rfl⟩ (kB (fun h_21 => ?_) (fun h_21 => ?_))
    · refine jif_ne hF (off := 5) 36 (by decide +kernel) (by decide) (by decide) (fun _ => ?_) (fun h => absurd h (by decide))
      have hbk := rc_back (lab := lab) hq (by omega) ha hS1 hq3 (by omega)
      refine jblk hF [(.aload_n 0, 1), (.iload_n 1, 1)] (by decide +kernel) (pc' := 38) (lo' := [(1, (0, mem 7 1)), (0, (2, 7))]) (st' := [(0, mem 7 1), (2, 7)]) rfl ?_
      refine jput hF 6 1 0 1 rfl (by decide) (by decide) rfl wd_171 (by decide +kernel) rfl (Or.inl rfl) (by first | assumption | omega) (fun h => by cases h) ?_
      obtain ⟨B, y, a1, hB, hm41, ha1, hbod⟩ : ∃ (B : Int → Int → Int) (y a1 : Int), (B = mem ∨ B = set2 mem 7 6 y) ∧ (set2 m_18 7 1 (mem 7 1)) = upR B a1 (-1) ∧ (0 ≤ a1 ∧ a1 ≤ L) ∧ mem 7 2 = -1 ∧ bodC T L lab (skp T L (mem 7 1)) = finC T L lab (condP T L 6 a1) := by
        first
        | exact ⟨_, _, _, Or.inr rfl, hbk.2.1, ha hbk.1, hbk.1, hbk.2.2⟩
        | (have ho := rc_open (lab := lab) hq (by omega) ha; exact ⟨_, 0, _, Or.inl rfl, ho.2.1, ho.2.2.1, ho.1, ho.2.2.2⟩)
      have hST5 : STT kd ln t r T L (set2 m_18 7 1 (mem 7 1)) := by
        rw [hm41]
        rcases hB with rfl | rfl
        · exact hST0.up (fun _ => ha1) ⟨by decide, by decide⟩
        · exact hST0.s6.up (fun _ => ha1) ⟨by decide, by decide⟩
      refine jblk hF [(.aload_n 0, 1), (.iconst 0, 1)] (by decide +kernel) (pc' := 43) (lo' := [(1, (0, mem 7 1)), (0, (2, 7))]) (st' := [(0, 0), (2, 7)]) rfl ?_
      refine jcallV hF ((c_X5_ucA hG t r T L 6 (by omega)).2 (set2 m_18 7 1 (mem 7 1)) 0 (by exact hST5) (by omega)) MW_X5_condition 6 (by decide) (by first | assumption | omega) wd_646 wd_648 wd_p15 (by decide +kernel) [] rfl rfl (rmI (by omega) (by decide)) (Nat.le_of_ble_eq_true rfl) ⟨Nat.le_of_ble_eq_true rfl, Nat.le_of_ble_eq_true rfl⟩ (kMR (fun v_25 m_23 h_24 => ?_))
      have hC5 := h_24
      have hU1 := hC5.1
      have hST6 := hC5.2.st hST5 (condP_gd T L 6)
      have hRDx6 := hST6.1
      have hax6 := hST6.2.2.1
      have hwx6 := hST6.2.2.2
      refine jblk hF [(.istore_n 2, 1), (.aload_n 0, 1), (.bipush 63, 2)] (by decide +kernel) (pc' := 50) (lo' := [(2, (0, v_25)), (1, (0, mem 7 1)), (0, (2, 7))]) (st' := [(0, 63), (2, 7)]) rfl ?_
      have hax7 : m_23 7 2 = -1 → 0 ≤ m_23 7 1 ∧ m_23 7 1 ≤ L + 1 := fun q => by have := hax6 q; omega
      refine jcallV hF (c_X5_demand hG 63 (by exact t) (by exact r) (by exact T) (by exact L) (by assumption) (by omega) (by omega) (by decide)) MW_X5_demand 6 (by decide) (by first | assumption | omega) wd_591 wd_593 wd_p8 (by decide +kernel) [] rfl rfl (rmI (by omega) (by decide)) (Nat.le_of_ble_eq_true rfl) ⟨Nat.le_of_ble_eq_true rfl, Nat.le_of_ble_eq_true rfl⟩ (kMV (fun m_26 h_27 => ?_))
      have hd := h_27
      have hST7 := dem_st hST6 (fun q => by omega) (fun q => hd.trans (if_pos q)) (fun q => hd.trans (if_neg q))
      refine jblk hF [(.aload_n 0, 1), (.aload_n 0, 1), (.iconst 0, 1)] (by decide +kernel) (pc' := 56) (lo' := [(2, (0, v_25)), (1, (0, mem 7 1)), (0, (2, 7))]) (st' := [(0, 0), (2, 7), (2, 7)]) rfl ?_
      refine jcallV hF (c_X5_sumA hG t r T L 6 (by omega) m_26 0 (by exact hST7.1) (by exact hST7.2.1) (by exact hST7.2.2.1) (by exact hST7.2.2.2) (by omega)) MW_X5_sum 6 (by decide) (by first | assumption | omega) wd_602 wd_604 wd_p10 (by decide +kernel) [(2, 7)] rfl rfl (rmI (by omega) (by decide)) (Nat.le_of_ble_eq_true rfl) ⟨Nat.le_of_ble_eq_true rfl, Nat.le_of_ble_eq_true rfl⟩ (kMR (fun v_30 m_28 h_29 => ?_))
      have hS8 := h_29
      have hST8 := (hS8.st hST7 (sumP_gd T L 6)).s6 (x := v_30)
      refine jput hF 6 6 1 6 rfl (by decide) (by decide) rfl wd_176 (by decide +kernel) rfl (Or.inr (Or.inr (Or.inl rfl))) (by first | assumption | omega) (fun h => by cases h) ?_
      refine jblk hF [(.iload_n 2, 1)] (by decide +kernel) (pc' := 63) (lo' := [(2, (0, v_25)), (1, (0, mem 7 1)), (0, (2, 7))]) (st' := [(0, v_25)]) rfl ?_
      refine jzret hF hr (by omega) (by decide +kernel) ?_
      exact lMR (by exact ⟨hU1, ⟨fun _ => by rw [s2_s, hbod.2]; exact rc_tail hB hm41 ha1 hC5.2 hd hS8, fun q => absurd hbod.1 q⟩, hST8⟩)
    · refine jif_ne hF (off := 5) 36 (by decide +kernel) (by decide) (by decide) (fun h => absurd h (by decide)) (fun _ => ?_)
      refine jblk hF [(.iconst 1, 1)] (by decide +kernel) (pc' := 35) (lo' := [(1, (0, mem 7 1)), (0, (2, 7))]) (st' := [(0, 1)]) rfl ?_
      refine jzret hF hr (by omega) (by decide +kernel) ?_
      exact lMR (by exact ⟨by omega, by have hz := rc_sum (lab := lab) hq (by omega) ha hS1 hq3 (by omega); rw [hq3.2, upR_o (by omega), s2_s, ← hq3.2]; exact hz, hST3⟩)
end
