section
/-- the same answer, and the same slips of it -/
def SE (S S' : ST) : Prop := S.1 = S'.1 ∧ S.2.1 = S'.2.1 ∧ ∀ j : Int, 0 ≤ j → j < S.1 → S.2.2.1 j = S'.2.2.1 j ∧ S.2.2.2.1 j = S'.2.2.2.1 j ∧ S.2.2.2.2 j = S'.2.2.2.2 j
theorem finS_e {u : Int} {tl tc ta : Int → Int} {S S' : ST} (h : SE S S') : SE (finS u tl tc ta S) (finS u tl tc ta S') := by
  unfold finS
  by_cases c : S.1 = -1 ∨ u < S.1
  · have c' : S'.1 = -1 ∨ u < S'.1 := by rw [← h.1]; exact c
    rw [if_pos c, if_pos c']
    refine ⟨rfl, rfl, fun j h1 h2 => ?_⟩
    have h3 : j < u := h2
    show cpN u tl _ j = cpN u tl _ j ∧ cpN u tc _ j = cpN u tc _ j ∧ cpN u ta _ j = cpN u ta _ j
    unfold cpN
    rw [if_pos ⟨h1, h3⟩, if_pos ⟨h1, h3⟩, if_pos ⟨h1, h3⟩, if_pos ⟨h1, h3⟩, if_pos ⟨h1, h3⟩, if_pos ⟨h1, h3⟩]
    exact ⟨rfl, rfl, rfl⟩
  · have c' : ¬ (S'.1 = -1 ∨ u < S'.1) := by rw [← h.1]; exact c
    rw [if_neg c, if_neg c']
    exact ⟨h.1, by show S.2.1 + _ = S'.2.1 + _; rw [h.1, h.2.1], h.2.2⟩
theorem foldC_e {f g : Int → ST → ST} (hf : ∀ c S S', SE S S' → SE (f c S) (g c S')) : ∀ (c : Nat) (S S' : ST), SE S S' → SE (foldC f c S) (foldC g c S') := by
  intro c
  induction c with
  | zero => intro S S' h; exact h
  | succ c ih => intro S S' h; exact hf _ _ _ (ih S S' h)
theorem seekF_e {N o h : Int} : ∀ (d : Nat) (rs : Int → Int) (i : Int) (tl tc ta : Int → Int) (S S' : ST), SE S S' → SE (seekF N o h d rs i tl tc ta S) (seekF N o h d rs i tl tc ta S') := by
  intro d
  induction d with
  | zero =>
    intro rs i tl tc ta S S' hS
    unfold seekF
    split
    · exact finS_e hS
    · exact hS
  | succ d ih =>
    intro rs i tl tc ta S S' hS
    unfold seekF
    split
    · exact finS_e hS
    · refine foldC_e ?_ _ _ _ hS
      intro c S S' h
      exact ih _ _ _ _ _ _ _ h
def blkN (mem : Int → Int → Int) (p b : Int) : Int := if mem 47 p - b * mem 52 p < mem 52 p then mem 47 p - b * mem 52 p else mem 52 p
def restF (mem : Int → Int → Int) (p b q : Int) : Int → Int := fun x => if x ≤ mem 49 p then 0 else difF (fun i => numQ mem p i q) (b * mem 52 p + x) (mem 49 p + 1) (mem 49 p + 1 + 1).toNat
def leastS (mem : Int → Int → Int) (p b q : Int) : ST := seekF (blkN mem p b) (mem 49 p) (b * mem 52 p) 4 (restF mem p b q) 0 (fun _ => 0) (fun _ => 0) (fun _ => 0) (-1, 0, (fun _ => 0), (fun _ => 0), (fun _ => 0))
theorem leastS_bd (mem : Int → Int → Int) (p b q : Int) : -1 ≤ (leastS mem p b q).1 ∧ (leastS mem p b q).1 ≤ 4 := (seekF_bd 3 (by decide) _ _ _ _ _ _ (show SB _ from ⟨by decide, by decide⟩)).2
/-- the answer stands in the cells -/
def LST (mm : Int → Int → Int) (S : ST) : Prop := mm 35 55 = S.1 ∧ mm 35 56 = S.2.1 ∧ ∀ j : Int, 0 ≤ j → j < S.1 → mm 74 j = S.2.2.1 j ∧ mm 75 j = S.2.2.2.1 j ∧ mm 76 j = S.2.2.2.2 j
theorem LST.of {mm : Int → Int → Int} {S S' : ST} (h : SKST mm S) (e : SE S' S) : LST mm S' := by
  refine ⟨h.1.trans e.1.symm, h.2.1.trans e.2.1.symm, fun j h1 h2 => ?_⟩
  rw [h.2.2.1, h.2.2.2.1, h.2.2.2.2]
  have := e.2.2 j h1 h2
  exact ⟨this.1.symm, this.2.1.symm, this.2.2.symm⟩
theorem blk_bd {L m b : Int} (hm : 0 < m) (hb : 0 ≤ b) (h : b ≤ (L + m - 1) / m - 1) : 0 ≤ b * m ∧ b * m ≤ L - 1 := by
  have h1 := Int.mul_nonneg hb (show 0 ≤ m by omega)
  have h2 := Int.mul_ediv_self_le (x := L + m - 1) (k := m) (by omega)
  have h3 := Int.mul_le_mul_of_nonneg_left (show b + 1 ≤ (L + m - 1) / m by omega) (show 0 ≤ m by omega)
  have h4 : m * (b + 1) = b * m + m := by rw [Int.mul_add, Int.mul_comm]; omega
  omega
/-- only rows of figures and what the search keeps have changed -/
def FL (mem mm : Int → Int → Int) : Prop := ∀ a j : Int, (a < 59 ∨ 62 < a) → (a < 70 ∨ 76 < a) → ¬ (a = 35 ∧ 55 ≤ j ∧ j ≤ 59) → mm a j = mem a j
theorem FR.l {mem mm : Int → Int → Int} (h : FR mem mm) : FL mem mm := fun a j h1 _ _ => h a j (by omega) (by omega) (by omega) (by omega)
theorem FS.l {mem mm : Int → Int → Int} (h : FS mem mm) : FL mem mm := fun a j _ h1 h2 => h a j (by omega) (by omega) (by omega) (by omega) (by omega) (by omega) (by omega) (by omega)
theorem FL.tr {a b c : Int → Int → Int} (h1 : FL a b) (h2 : FL b c) : FL a c := fun x j q q1 q2 => (h2 x j q q1 q2).trans (h1 x j q q1 q2)
theorem FL.rf {mem : Int → Int → Int} : FL mem mem := fun _ _ _ _ _ => rfl
theorem FL.p {mem : Int → Int → Int} {k : Int} (v : Int) (h : 55 ≤ k ∧ k ≤ 59) : FL mem (set2 mem 35 k v) := fun a j _ _ q => by
  unfold set2
  exact if_neg (fun e => q (by omega))
def RGS (S : ST) : Prop := ∀ j : Int, 0 ≤ j → j < S.1 → InI (S.2.2.1 j) ∧ InI (S.2.2.2.1 j)
def RGT (u : Int) (tl tc : Int → Int) : Prop := ∀ j : Int, 0 ≤ j → j < u → InI (tl j) ∧ InI (tc j)
theorem finS_rg {u : Int} {tl tc ta : Int → Int} {S : ST} (ht : RGT u tl tc) (h : RGS S) : RGS (finS u tl tc ta S) := by
  unfold finS
  by_cases c : S.1 = -1 ∨ u < S.1
  · rw [if_pos c]
    intro j h1 h2
    have h3 : j < u := h2
    show InI (cpN u tl _ j) ∧ InI (cpN u tc _ j)
    unfold cpN
    rw [if_pos ⟨h1, h3⟩, if_pos ⟨h1, h3⟩]
    exact ht j h1 h3
  · rw [if_neg c]
    exact h
theorem foldC_rg {f : Int → ST → ST} {o : Int} (hf : ∀ c S, 0 ≤ c → c ≤ o → RGS S → RGS (f c S)) : ∀ (c : Nat) (S : ST), (c : Int) ≤ o + 1 → RGS S → RGS (foldC f c S) := by
  intro c
  induction c with
  | zero => intro S _ h; exact h
  | succ c ih => intro S hc h; exact hf _ _ (by omega) (by omega) (ih S (by omega) h)
theorem skip_bd (rs : Int → Int) : ∀ (f : Nat) (i : Int), i ≤ skipN rs i f ∧ skipN rs i f ≤ i + f := by
  intro f
  induction f with
  | zero => intro i; unfold skipN; omega
  | succ f ih =>
    intro i
    unfold skipN
    split
    · have := ih (i + 1)
      omega
    · omega
theorem seekF_rg {N o h : Int} (hN : 0 ≤ N ∧ N ≤ 40) (ho : 0 ≤ o ∧ o ≤ 4) (hh : 0 ≤ h ∧ h ≤ 40) : ∀ (d : Nat) (rs : Int → Int) (i : Int) (tl tc ta : Int → Int) (S : ST), 0 ≤ i ∧ i ≤ N → RGT (4 - (d : Int)) tl tc → RGS S → RGS (seekF N o h d rs i tl tc ta S) := by
  intro d
  induction d with
  | zero =>
    intro rs i tl tc ta S hi ht hS
    unfold seekF
    split
    · exact finS_rg (by exact ht) hS
    · exact hS
  | succ d ih =>
    intro rs i tl tc ta S hi ht hS
    have hk := skip_bd rs (N - i).toNat i
    have ht' : RGT (3 - (d : Int)) tl tc := by rw [show (3 : Int) - d = 4 - ((d + 1 : Nat) : Int) by omega]; exact ht
    unfold seekF
    split
    · exact finS_rg ht' hS
    · refine foldC_rg (o := o) ?_ _ _ (by omega) hS
      intro c S h1 h2 h3
      refine ih _ _ _ _ _ _ (by omega) ?_ h3
      intro j h4 h5
      unfold upI
      by_cases e : j = 3 - (d : Int)
      · rw [if_pos e, if_pos e]
        refine ⟨by omega, ?_⟩
        unfold coC
        split <;> omega
      · rw [if_neg e, if_neg e]
        exact ht' j h4 (by omega)
theorem leastS_rg {mem : Int → Int → Int} {p b q : Int} (hN : 0 ≤ blkN mem p b ∧ blkN mem p b ≤ 40) (ho : 0 ≤ mem 49 p ∧ mem 49 p ≤ 4) (hh : 0 ≤ b * mem 52 p ∧ b * mem 52 p ≤ 40) : RGS (leastS mem p b q) := seekF_rg hN ho hh 4 _ _ _ _ _ _ (by omega) (fun j h1 h2 => absurd h2 (by omega)) (fun j h1 h2 => absurd (show j < -1 from h2) (by omega))
set_option maxHeartbeats 4000000 in
set_option maxRecDepth 100000 in
theorem c_X12_findLeast {l : Launch} {g : GP} (hG : GH g) {kd : Int → Nat} {ln : Int → Int} {mem : Int → Int → Int} {sz : Nat} (hS : SK kd ln) (hR : SR mem) (p b q : Int) (h_p : InI p) (h_b : InI b) (h_q : InI q) (hPS : PGS mem) (hSL : SLS mem) (h0 : 0 ≤ mem 35 0 ∧ mem 35 0 ≤ 1000) : MT l g yX12_findLeast cX12_findLeast 5 (some .boolean) 6 0 0 [(2, 35), (0, p), (0, b), (0, q)] kd ln mem sz (pMB (fun c mem' => SR mem' ∧ (((isPg mem p ∧ (0 ≤ b ∧ b ≤ (mem 47 p + mem 52 p - 1) / mem 52 p - 1) ∧ isKn mem q) → (c ↔ (leastS mem p b q).1 ≠ -1) ∧ FL mem mem' ∧ LST mem' (leastS mem p b q)) ∧ (¬ (isPg mem p ∧ (0 ≤ b ∧ b ≤ (mem 47 p + mem 52 p - 1) / mem 52 p - 1) ∧ isKn mem q) → ¬ c ∧ mem' = mem))) kd ln sz) := by
  refine MT_of hG (by decide +kernel) (Nat.le_of_ble_eq_true rfl) (fun z hF hr hn => ?_)
  refine jblk hF [(.aload_n 0, 1), (.iload_n 1, 1)] (by decide +kernel) (pc' := 2) (lo' := [(0, (2, 35)), (1, (0, p)), (2, (0, b)), (3, (0, q))]) (st' := [(0, p), (2, 35)]) rfl ?_
  refine jcallV hF (c_X12_isPage hG hS hR p (by omega) (by omega)) MW_X12_isPage 13 (by decide) (by exact hS.k35) wd_1930 wd_1932 wd_p71 (by decide +kernel) [] rfl rfl (by decide) (Nat.le_of_ble_eq_true rfl) (by decide) (kB (fun h_1 => ?_) (fun h_1 => ?_))
  · refine jif_eq hF (off := 26) 31 (by decide +kernel) (by decide) (by decide) (fun h => absurd h (by decide)) (fun _ => ?_)
    have hp := hPS.2.2 p (by omega) (by omega)
    have hdv := ediv_bd (mem 47 p + mem 52 p - 1) (mem 52 p) (by omega)
    refine jblk hF [(.iload_n 2, 1), (.iconst 0, 1), (.aload_n 0, 1), (.iload_n 1, 1)] (by decide +kernel) (pc' := 12) (lo' := [(0, (2, 35)), (1, (0, p)), (2, (0, b)), (3, (0, q))]) (st' := [(0, p), (2, 35), (0, 0), (0, b)]) rfl ?_
    refine jcallV hF (c_X12_blocks hG hS hR p (by first | omega | exact hE.fPG hp | exact (EQ36.f _ _).fPG hp)) MW_X12_blocks 13 (by decide) (by exact hS.k35) wd_1934 wd_1936 wd_p72 (by decide +kernel) [(0, 0), (0, b)] rfl rfl (by decide) (Nat.le_of_ble_eq_true rfl) (by decide) (kV ?_)
    refine jblk hF [(.iconst 1, 1), (.isub, 1)] (by decide +kernel) (pc' := 17) (lo' := [(0, (2, 35)), (1, (0, p)), (2, (0, b)), (3, (0, q))]) (st' := [(0, ((mem 47 p + mem 52 p - 1) / mem 52 p) - 1), (0, 0), (0, b)]) rfl ?_
    refine jcallS hF (c_X12_in hG b 0 (((mem 47 p + mem 52 p - 1) / mem 52 p) - 1) (by omega) (by decide) (by omega)) MW_X12_in wd_1743 wd_1744 (by decide +kernel) [] rfl rfl (by decide) (Nat.le_of_ble_eq_true rfl) (by decide) (kB (fun h_3 => ?_) (fun h_3 => ?_))
    · refine jif_eq hF (off := 11) 31 (by decide +kernel) (by decide) (by decide) (fun h => absurd h (by decide)) (fun _ => ?_)
      refine jblk hF [(.aload_n 0, 1), (.iload_n 3, 1)] (by decide +kernel) (pc' := 25) (lo' := [(0, (2, 35)), (1, (0, p)), (2, (0, b)), (3, (0, q))]) (st' := [(0, q), (2, 35)]) rfl ?_
      refine jcallV hF (c_X12_isKnowing hG hS hR q (by omega) (by omega)) MW_X12_isKnowing 13 (by decide) (by exact hS.k35) wd_2004 wd_2006 wd_p84 (by decide +kernel) [] rfl rfl (by decide) (Nat.le_of_ble_eq_true rfl) (by decide) (kB (fun h_5 => ?_) (fun h_5 => ?_))
      · refine jif_ne hF (off := 5) 33 (by decide +kernel) (by decide) (by decide) (fun _ => ?_) (fun h => absurd h (by decide))
        have hbb := blk_bd (L := mem 47 p) (m := mem 52 p) (b := b) (by omega) (by omega) (by omega)
        refine jblk hF [(.aload_n 0, 1), (.iload_n 1, 1), (.iload_n 3, 1)] (by decide +kernel) (pc' := 36) (lo' := [(0, (2, 35)), (1, (0, p)), (2, (0, b)), (3, (0, q))]) (st' := [(0, q), (0, p), (2, 35)]) rfl ?_
        refine jcallV hF (c_X12_makeAs hG hS hR p q (by first | exact hE1.fPG hp | (first | omega | exact hE.fPG hp | exact (EQ36.f _ _).fPG hp)) (by first | exact hE1.fSLS e45 e33 e00 hSL | (first | exact hSL | exact (EQ36.f _ _).fSLS (s2_k (by decide)) (s2_k (by decide)) (s2_k (by decide)) hSL)) (by first | (rw [e33]; omega) | (first | omega | (rw [show (set2 mem 35 1 0) 35 33 = mem 35 33 from s2_k (by decide)]; omega) | (rw [show (set2 mem 35 1 0) 35 0 = mem 35 0 from s2_k (by decide)]; omega))) (by omega) (by first | (rw [e00]; omega) | (first | omega | (rw [show (set2 mem 35 1 0) 35 33 = mem 35 33 from s2_k (by decide)]; omega) | (rw [show (set2 mem 35 1 0) 35 0 = mem 35 0 from s2_k (by decide)]; omega)))) MW_X12_makeAs 13 (by decide) (by exact hS.k35) wd_2008 wd_2010 wd_p85 (by decide +kernel) [] rfl rfl (by decide) (Nat.le_of_ble_eq_true rfl) (by decide) (kMV (fun m_7 h_8 => ?_))
        obtain ⟨hR_m_7, h_8⟩ := h_8
        have hK := h_8
        have hE : EQ36 mem m_7 := hK.1.e
        have e47 := congrFun (hE.at 47 (by decide)) p
        have e49 := congrFun (hE.at 49 (by decide)) p
        have e52 := congrFun (hE.at 52 (by decide)) p
        have eb : b * m_7 52 p = b * mem 52 p := by rw [e52]
        refine jblk hF [(.aload_n 0, 1), (.iload_n 2, 1), (.aload_n 0, 1)] (by decide +kernel) (pc' := 42) (lo' := [(0, (2, 35)), (1, (0, p)), (2, (0, b)), (3, (0, q))]) (st' := [(2, 35), (0, b), (2, 35)]) rfl ?_
        refine jget hF 13 27 2 27 rfl (by decide) (by decide) rfl wd_1490 (by decide +kernel) (by exact hS.k35) ?_
        rw [SR.r27 hR_m_7]
        refine jblk hF [(.iload_n 1, 1)] (by decide +kernel) (pc' := 46) (lo' := [(0, (2, 35)), (1, (0, p)), (2, (0, b)), (3, (0, q))]) (st' := [(0, p), (2, 52), (0, b), (2, 35)]) rfl ?_
        refine jiald hF (by decide +kernel) (by exact hS.k52) (by omega) (by have := hS.l52; omega) ?_
        refine jblk hF [(.imul, 1)] (by decide +kernel) (pc' := 48) (lo' := [(0, (2, 35)), (1, (0, p)), (2, (0, b)), (3, (0, q))]) (st' := [(0, b * (m_7 52 p)), (2, 35)]) rfl ?_
        refine jput hF 13 59 0 59 rfl (by decide) (by decide) rfl wd_1522 (by decide +kernel) rfl (Or.inl rfl) (by exact hS.k35) (fun h => by cases h) ?_
        refine jblk hF [(.aload_n 0, 1), (.aload_n 0, 1)] (by decide +kernel) (pc' := 53) (lo' := [(0, (2, 35)), (1, (0, p)), (2, (0, b)), (3, (0, q))]) (st' := [(2, 35), (2, 35)]) rfl ?_
        refine jget hF 13 27 2 27 rfl (by decide) (by decide) rfl wd_1490 (by decide +kernel) (by exact hS.k35) ?_
        rw [SR.r27 (SR.s hR_m_7 (Or.inr (by decide)))]
        refine jblk hF [(.iload_n 1, 1)] (by decide +kernel) (pc' := 57) (lo' := [(0, (2, 35)), (1, (0, p)), (2, (0, b)), (3, (0, q))]) (st' := [(0, p), (2, 52), (2, 35)]) rfl ?_
        refine jiald hF (by decide +kernel) (by exact hS.k52) (by omega) (by have := hS.l52; omega) ?_
        rw [show (set2 m_7 35 59 (b * (m_7 52 p))) 52 p = m_7 52 p from (s2_a (by decide))]
        refine jblk hF [(.aload_n 0, 1)] (by decide +kernel) (pc' := 59) (lo' := [(0, (2, 35)), (1, (0, p)), (2, (0, b)), (3, (0, q))]) (st' := [(2, 35), (0, m_7 52 p), (2, 35)]) rfl ?_
        refine jget hF 13 22 2 22 rfl (by decide) (by decide) rfl wd_1485 (by decide +kernel) (by exact hS.k35) ?_
        rw [SR.r22 (SR.s hR_m_7 (Or.inr (by decide)))]
        refine jblk hF [(.iload_n 1, 1)] (by decide +kernel) (pc' := 63) (lo' := [(0, (2, 35)), (1, (0, p)), (2, (0, b)), (3, (0, q))]) (st' := [(0, p), (2, 47), (0, m_7 52 p), (2, 35)]) rfl ?_
        refine jiald hF (by decide +kernel) (by exact hS.k47) (by omega) (by have := hS.l47; omega) ?_
        rw [show (set2 m_7 35 59 (b * (m_7 52 p))) 47 p = m_7 47 p from (s2_a (by decide))]
        refine jblk hF [(.aload_n 0, 1)] (by decide +kernel) (pc' := 65) (lo' := [(0, (2, 35)), (1, (0, p)), (2, (0, b)), (3, (0, q))]) (st' := [(2, 35), (0, m_7 47 p), (0, m_7 52 p), (2, 35)]) rfl ?_
        refine jget hF 13 59 0 59 rfl (by decide) (by decide) rfl wd_1522 (by decide +kernel) (by exact hS.k35) ?_
        rw [show (set2 m_7 35 59 (b * (m_7 52 p))) 35 59 = b * (m_7 52 p) from s2_s]
        refine jblk hF [(.isub, 1)] (by decide +kernel) (pc' := 69) (lo' := [(0, (2, 35)), (1, (0, p)), (2, (0, b)), (3, (0, q))]) (st' := [(0, (m_7 47 p) - (b * (m_7 52 p))), (0, m_7 52 p), (2, 35)]) rfl ?_
        refine jcallS hF (c_J9_min_7cf53 hG (m_7 52 p) ((m_7 47 p) - (b * (m_7 52 p))) (by omega) (by omega)) MW_J9_min_7cf53 wd_2116 wd_483 (by decide +kernel) [(2, 35)] rfl rfl (by decide) (Nat.le_of_ble_eq_true rfl) (by decide) (kV ?_)
        refine jput hF 13 57 0 57 rfl (by decide) (by decide) rfl wd_1520 (by decide +kernel) rfl (Or.inl rfl) (by exact hS.k35) (fun h => by cases h) ?_
        refine jblk hF [(.aload_n 0, 1), (.aload_n 0, 1)] (by decide +kernel) (pc' := 77) (lo' := [(0, (2, 35)), (1, (0, p)), (2, (0, b)), (3, (0, q))]) (st' := [(2, 35), (2, 35)]) rfl ?_
        refine jget hF 13 24 2 24 rfl (by decide) (by decide) rfl wd_1487 (by decide +kernel) (by exact hS.k35) ?_
        rw [SR.r24 (SR.s (SR.s hR_m_7 (Or.inr (by decide))) (Or.inr (by decide)))]
        refine jblk hF [(.iload_n 1, 1)] (by decide +kernel) (pc' := 81) (lo' := [(0, (2, 35)), (1, (0, p)), (2, (0, b)), (3, (0, q))]) (st' := [(0, p), (2, 49), (2, 35)]) rfl ?_
        refine jiald hF (by decide +kernel) (by exact hS.k49) (by omega) (by have := hS.l49; omega) ?_
        rw [show (set2 (set2 m_7 35 59 (b * (m_7 52 p))) 35 57 (if ((m_7 47 p) - (b * (m_7 52 p))) < (m_7 52 p) then ((m_7 47 p) - (b * (m_7 52 p))) else (m_7 52 p))) 49 p = m_7 49 p from ((s2_a (by decide)).trans (s2_a (by decide)))]
        refine jput hF 13 58 0 58 rfl (by decide) (by decide) rfl wd_1521 (by decide +kernel) rfl (Or.inl rfl) (by exact hS.k35) (fun h => by cases h) ?_
        refine jblk hF [(.iconst 0, 1), (.istore 4, 2)] (by decide +kernel) (pc' := 88) (lo' := [(4, (0, 0)), (0, (2, 35)), (1, (0, p)), (2, (0, b)), (3, (0, q))]) (st' := []) rfl ?_
        have L_10 : ∀ (fu_11 : Nat) (k : Int) (m1 : Int → Int → Int), (0 ≤ k ∧ k ≤ blkN mem p b) → (SR m1) → (FL mem m1) → (m1 35 57 = blkN mem p b ∧ m1 35 58 = mem 49 p ∧ m1 35 59 = b * mem 52 p) → (∀ i : Int, 0 ≤ i → i < mem 47 p → m1 61 i = numQ mem p i q) → (∀ x : Int, 0 ≤ x → x < k → m1 70 x = restF mem p b q x) →  (blkN mem p b - k).toNat < fu_11 → J z g 5 0 0 (QM z g 0 0 (pMB (fun c mem' => SR mem' ∧ (((isPg mem p ∧ (0 ≤ b ∧ b ≤ (mem 47 p + mem 52 p - 1) / mem 52 p - 1) ∧ isKn mem q) → (c ↔ (leastS mem p b q).1 ≠ -1) ∧ FL mem mem' ∧ LST mem' (leastS mem p b q)) ∧ (¬ (isPg mem p ∧ (0 ≤ b ∧ b ≤ (mem 47 p + mem 52 p - 1) / mem 52 p - 1) ∧ isKn mem q) → ¬ c ∧ mem' = mem))) kd ln sz)) 88 [(0, (2, 35)), (1, (0, p)), (2, (0, b)), (3, (0, q)), (4, (0, k))] [] kd ln m1 sz := by
          intro fu_11
          induction fu_11 with
          | zero => intro k m1 _ _ _ _ _ _ hm; omega
          | succ fu_11 ih_9 =>
            intro k m1 hk hR_m1 hfl h35 hnum hrs hm
            have hbl : 0 ≤ blkN mem p b ∧ blkN mem p b ≤ 40 ∧ b * mem 52 p + blkN mem p b ≤ mem 47 p := by unfold blkN; split <;> omega
            refine jblk hF [(.iload 4, 2), (.aload_n 0, 1)] (by decide +kernel) (pc' := 91) (lo' := [(0, (2, 35)), (1, (0, p)), (2, (0, b)), (3, (0, q)), (4, (0, k))]) (st' := [(2, 35), (0, k)]) rfl ?_
            refine jget hF 13 57 0 57 rfl (by decide) (by decide) rfl wd_1520 (by decide +kernel) (by exact hS.k35) ?_
            refine jicmp_ge hF (off := 46) 140 (by decide +kernel) (by decide) (by omega) (by omega) (fun h_12 => ?_) (fun h_12 => ?_)
            · refine jblk hF [(.aload_n 0, 1), (.iconst (-1), 1)] (by decide +kernel) (pc' := 142) (lo' := [(0, (2, 35)), (1, (0, p)), (2, (0, b)), (3, (0, q)), (4, (0, k))]) (st' := [(0, (-1)), (2, 35)]) rfl ?_
              refine jput hF 13 55 0 55 rfl (by decide) (by decide) rfl wd_1518 (by decide +kernel) rfl (Or.inl rfl) (by exact hS.k35) (fun h => by cases h) ?_
              refine jblk hF [(.aload_n 0, 1), (.iconst 0, 1)] (by decide +kernel) (pc' := 147) (lo' := [(0, (2, 35)), (1, (0, p)), (2, (0, b)), (3, (0, q)), (4, (0, k))]) (st' := [(0, 0), (2, 35)]) rfl ?_
              refine jput hF 13 56 0 56 rfl (by decide) (by decide) rfl wd_1519 (by decide +kernel) rfl (Or.inl rfl) (by exact hS.k35) (fun h => by cases h) ?_
              obtain ⟨S9, hS9⟩ : ∃ S9 : ST, S9 = (-1, 0, (set2 (set2 m1 35 55 (-1)) 35 56 0) 74, (set2 (set2 m1 35 55 (-1)) 35 56 0) 75, (set2 (set2 m1 35 55 (-1)) 35 56 0) 76) := ⟨_, rfl⟩
              have hst9 : SKST (set2 (set2 m1 35 55 (-1)) 35 56 0) S9 := by rw [hS9]; exact ⟨by rw [s2_k (by decide), s2_s], by rw [s2_s], rfl, rfl, rfl⟩
              have g57 : (set2 (set2 m1 35 55 (-1)) 35 56 0) 35 57 = blkN mem p b := by rw [s2_k (by decide), s2_k (by decide)]; exact h35.1
              have g58 : (set2 (set2 m1 35 55 (-1)) 35 56 0) 35 58 = mem 49 p := by rw [s2_k (by decide), s2_k (by decide)]; exact h35.2.1
              have g59 : (set2 (set2 m1 35 55 (-1)) 35 56 0) 35 59 = b * mem 52 p := by rw [s2_k (by decide), s2_k (by decide)]; exact h35.2.2
              have hrs9 : ∀ x : Int, 0 ≤ x → x < (set2 (set2 m1 35 55 (-1)) 35 56 0) 35 57 → (set2 (set2 m1 35 55 (-1)) 35 56 0) 70 x = restF mem p b q x := fun x h1 h2 => by rw [s2_a (by decide), s2_a (by decide)]; exact hrs x h1 (by omega)
              have hfl9 : FL mem (set2 (set2 m1 35 55 (-1)) 35 56 0) := hfl.tr ((FL.p _ (by decide)).tr (FL.p _ (by decide)))
              refine jblk hF [(.aload_n 0, 1), (.iconst 0, 1), (.iconst 0, 1)] (by decide +kernel) (pc' := 153) (lo' := [(0, (2, 35)), (1, (0, p)), (2, (0, b)), (3, (0, q)), (4, (0, k))]) (st' := [(0, 0), (0, 0), (2, 35)]) rfl ?_
              refine jcallV hF (c_seek0 hG hS (SR.s (SR.s hR_m1 (Or.inr (by decide))) (Or.inr (by decide))) 0 0 (by exact (restF mem p b q)) (by exact (fun _ => 0)) (by exact (fun _ => 0)) (by exact (fun _ => 0)) (by exact S9) (by omega) (by first | omega | (rw [g57]; omega) | (rw [g58]; omega) | (rw [g59]; omega)) (by first | omega | (rw [g57]; omega) | (rw [g58]; omega) | (rw [g59]; omega)) (by first | omega | (rw [g57]; omega) | (rw [g58]; omega) | (rw [g59]; omega)) (by first | omega | (rw [g57]; omega) | (rw [g58]; omega) | (rw [g59]; omega)) (by exact hrs9) (by intro j h1 h2; omega) (by exact hst9) (by rw [hS9]; exact ⟨show (-1 : Int) ≤ -1 by decide, show (-1 : Int) ≤ 4 by decide⟩)) MW_X12_seek 13 (by decide) (by exact hS.k35) wd_2117 wd_2119 wd_p96 (by decide +kernel) [] rfl rfl (by decide) (Nat.le_of_ble_eq_true rfl) (by decide) (kMV (fun m_13 h_14 => ?_))
              obtain ⟨hR_m_13, h_14⟩ := h_14
              obtain ⟨hfs8, -, -, hst8⟩ := h_14
              rw [g57, g58, g59] at hst8
              have hL : LST m_13 (leastS mem p b q) := LST.of hst8 (seekF_e 4 _ _ _ _ _ _ _ (by rw [hS9]; exact ⟨rfl, rfl, fun j h1 h2 => absurd (show j < -1 from h2) (by omega)⟩))
              have hLb := leastS_bd mem p b q
              have hF9 := hfl9.tr hfs8.l
              have hl1 := hL.1
              refine jblk hF [(.aload_n 0, 1)] (by decide +kernel) (pc' := 157) (lo' := [(0, (2, 35)), (1, (0, p)), (2, (0, b)), (3, (0, q)), (4, (0, k))]) (st' := [(2, 35)]) rfl ?_
              refine jget hF 13 55 0 55 rfl (by decide) (by decide) rfl wd_1518 (by decide +kernel) (by exact hS.k35) ?_
              refine jblk hF [(.iconst (-1), 1)] (by decide +kernel) (pc' := 161) (lo' := [(0, (2, 35)), (1, (0, p)), (2, (0, b)), (3, (0, q)), (4, (0, k))]) (st' := [(0, (-1)), (0, m_13 35 55)]) rfl ?_
              refine jicmp_eq hF (off := 7) 168 (by decide +kernel) (by decide) (by omega) (by decide) (fun h_15 => ?_) (fun h_15 => ?_)
              · refine jblk hF [(.iconst 0, 1)] (by decide +kernel) (pc' := 169) (lo' := [(0, (2, 35)), (1, (0, p)), (2, (0, b)), (3, (0, q)), (4, (0, k))]) (st' := [(0, 0)]) rfl ?_
                refine jzret hF hr (by omega) (by decide +kernel) ?_
                exact lMB0 ⟨hR_m_13, by first | exact ⟨fun _ => ⟨⟨fun _ => by omega, fun _ => trivial⟩, hF9, hL⟩, fun h => absurd (by omega) h⟩ | exact ⟨fun _ => ⟨⟨fun h => h.elim, fun h => absurd h (by omega)⟩, hF9, hL⟩, fun h => absurd (by omega) h⟩⟩
              · refine jblk hF [(.iconst 1, 1)] (by decide +kernel) (pc' := 165) (lo' := [(0, (2, 35)), (1, (0, p)), (2, (0, b)), (3, (0, q)), (4, (0, k))]) (st' := [(0, 1)]) rfl ?_
                refine jgoto hF (off := 4) 169 (by decide +kernel) (by decide) ?_
                refine jzret hF hr (by omega) (by decide +kernel) ?_
                exact lMB1 ⟨hR_m_13, by first | exact ⟨fun _ => ⟨⟨fun _ => by omega, fun _ => trivial⟩, hF9, hL⟩, fun h => absurd (by omega) h⟩ | exact ⟨fun _ => ⟨⟨fun h => h.elim, fun h => absurd h (by omega)⟩, hF9, hL⟩, fun h => absurd (by omega) h⟩⟩
            · refine jblk hF [(.aload_n 0, 1)] (by decide +kernel) (pc' := 98) (lo' := [(0, (2, 35)), (1, (0, p)), (2, (0, b)), (3, (0, q)), (4, (0, k))]) (st' := [(2, 35)]) rfl ?_
              refine jget hF 13 48 2 48 rfl (by decide) (by decide) rfl wd_1511 (by decide +kernel) (by exact hS.k35) ?_
              rw [SR.r48 hR_m1]
              refine jblk hF [(.iload 4, 2), (.iload 4, 2), (.aload_n 0, 1)] (by decide +kernel) (pc' := 106) (lo' := [(0, (2, 35)), (1, (0, p)), (2, (0, b)), (3, (0, q)), (4, (0, k))]) (st' := [(2, 35), (0, k), (0, k), (2, 70)]) rfl ?_
              refine jget hF 13 58 0 58 rfl (by decide) (by decide) rfl wd_1521 (by decide +kernel) (by exact hS.k35) ?_
              refine jicmp_gt hF (off := 7) 116 (by decide +kernel) (by decide) (by omega) (by omega) (fun h_16 => ?_) (fun h_16 => ?_)
              · refine jblk hF [(.aload_n 0, 1), (.aload_n 0, 1)] (by decide +kernel) (pc' := 118) (lo' := [(0, (2, 35)), (1, (0, p)), (2, (0, b)), (3, (0, q)), (4, (0, k))]) (st' := [(2, 35), (2, 35), (0, k), (2, 70)]) rfl ?_
                refine jget hF 13 59 0 59 rfl (by decide) (by decide) rfl wd_1522 (by decide +kernel) (by exact hS.k35) ?_
                refine jblk hF [(.iload 4, 2), (.iadd, 1), (.aload_n 0, 1)] (by decide +kernel) (pc' := 125) (lo' := [(0, (2, 35)), (1, (0, p)), (2, (0, b)), (3, (0, q)), (4, (0, k))]) (st' := [(2, 35), (0, (m1 35 59) + k), (2, 35), (0, k), (2, 70)]) rfl ?_
                refine jget hF 13 58 0 58 rfl (by decide) (by decide) rfl wd_1521 (by decide +kernel) (by exact hS.k35) ?_
                refine jblk hF [(.iconst 1, 1), (.iadd, 1)] (by decide +kernel) (pc' := 130) (lo' := [(0, (2, 35)), (1, (0, p)), (2, (0, b)), (3, (0, q)), (4, (0, k))]) (st' := [(0, (m1 35 58) + 1), (0, (m1 35 59) + k), (2, 35), (0, k), (2, 70)]) rfl ?_
                refine jcallV hF (c_X12_difference hG hS hR_m1 ((m1 35 59) + k) ((m1 35 58) + 1) (by omega)) MW_X12_difference 13 (by decide) (by exact hS.k35) wd_2076 wd_2078 wd_p92 (by decide +kernel) [(0, k), (2, 70)] rfl rfl (by decide) (Nat.le_of_ble_eq_true rfl) (by decide) (kV ?_)
                refine jlast hF (by decide +kernel) (by decide) (by exact hS.k70) (by omega) (by have := hS.l70; omega) ?_
                refine jblk hF [(.iinc 4 1, 3)] (by decide +kernel) (pc' := 137) (lo' := [(4, (0, k + 1)), (0, (2, 35)), (1, (0, p)), (2, (0, b)), (3, (0, q))]) (st' := []) rfl ?_
                refine jgoto hF (off := (-49)) 88 (by decide +kernel) (by decide) ?_
                refine jsub [1, 2, 3, 4, 0] rfl ?_
                refine ih_9 (k + 1) (set2 m1 70 k (difF (m1 61) ((m1 35 59) + k) ((m1 35 58) + 1) (((m1 35 58) + 1) + 1).toNat)) ?_ ?_ ?_ ?_ ?_ ?_ ?_
                · omega
                · exact hR_m1.s (Or.inl (by decide))
                · exact hfl.tr (FS.s _ _ (by decide)).l
                · exact h35
                · exact hnum
                · exact upto_put (f := restF mem p b q) hrs (by unfold restF; first | (rw [if_pos (by omega)]; done) | (rw [if_neg (by omega), h35.2.1, h35.2.2]; exact difF_congr _ _ _ (fun i h1 h2 => hnum i (by omega) (by omega))))
                · omega
              · refine jlconst hF (n := 0) 0 rfl (by decide +kernel) ?_
                refine jgoto hF (off := 20) 133 (by decide +kernel) (by decide) ?_
                refine jlast hF (by decide +kernel) (by decide) (by exact hS.k70) (by omega) (by have := hS.l70; omega) ?_
                refine jblk hF [(.iinc 4 1, 3)] (by decide +kernel) (pc' := 137) (lo' := [(4, (0, k + 1)), (0, (2, 35)), (1, (0, p)), (2, (0, b)), (3, (0, q))]) (st' := []) rfl ?_
                refine jgoto hF (off := (-49)) 88 (by decide +kernel) (by decide) ?_
                refine jsub [1, 2, 3, 4, 0] rfl ?_
                refine ih_9 (k + 1) (set2 m1 70 k 0) ?_ ?_ ?_ ?_ ?_ ?_ ?_
                · omega
                · exact hR_m1.s (Or.inl (by decide))
                · exact hfl.tr (FS.s _ _ (by decide)).l
                · exact h35
                · exact hnum
                · exact upto_put (f := restF mem p b q) hrs (by unfold restF; first | (rw [if_pos (by omega)]; done) | (rw [if_neg (by omega), h35.2.1, h35.2.2]; exact difF_congr _ _ _ (fun i h1 h2 => hnum i (by omega) (by omega))))
                · omega
        refine jsub [1, 2, 3, 4, 0] rfl ?_
        refine L_10 _ 0 (set2 (set2 (set2 m_7 35 59 (b * (m_7 52 p))) 35 57 (if ((m_7 47 p) - (b * (m_7 52 p))) < (m_7 52 p) then ((m_7 47 p) - (b * (m_7 52 p))) else (m_7 52 p))) 35 58 (m_7 49 p)) ?_ ?_ ?_ ?_ ?_ ?_ (Nat.lt_succ_self _)
        · unfold blkN; split <;> omega
        · exact (SR.s (SR.s (SR.s hR_m_7 (Or.inr (by decide))) (Or.inr (by decide))) (Or.inr (by decide)))
        · exact hK.1.l.tr (((FL.p _ (by decide)).tr (FL.p _ (by decide))).tr (FL.p _ (by decide)))
        · exact ⟨by rw [s2_k (by decide), s2_s]; unfold blkN; rw [e52, e47], by rw [s2_s, e49], by rw [s2_k (by decide), s2_k (by decide), s2_s, e52]⟩
        · intro i h1 h2; exact hK.2.1 i h1 h2
        · intro x h1 h2; omega
      · refine jif_ne hF (off := 5) 33 (by decide +kernel) (by decide) (by decide) (fun h => absurd h (by decide)) (fun _ => ?_)
        refine jblk hF [(.iconst 0, 1)] (by decide +kernel) (pc' := 32) (lo' := [(0, (2, 35)), (1, (0, p)), (2, (0, b)), (3, (0, q))]) (st' := [(0, 0)]) rfl ?_
        refine jzret hF hr (by omega) (by decide +kernel) ?_
        exact lMB0 ⟨hR, by exact ⟨fun h => absurd h (by omega), fun _ => ⟨id, rfl⟩⟩⟩
    · refine jif_eq hF (off := 11) 31 (by decide +kernel) (by decide) (by decide) (fun _ => ?_) (fun h => absurd h (by decide))
      refine jblk hF [(.iconst 0, 1)] (by decide +kernel) (pc' := 32) (lo' := [(0, (2, 35)), (1, (0, p)), (2, (0, b)), (3, (0, q))]) (st' := [(0, 0)]) rfl ?_
      refine jzret hF hr (by omega) (by decide +kernel) ?_
      exact lMB0 ⟨hR, by exact ⟨fun h => absurd h (by omega), fun _ => ⟨id, rfl⟩⟩⟩
  · refine jif_eq hF (off := 26) 31 (by decide +kernel) (by decide) (by decide) (fun _ => ?_) (fun h => absurd h (by decide))
    refine jblk hF [(.iconst 0, 1)] (by decide +kernel) (pc' := 32) (lo' := [(0, (2, 35)), (1, (0, p)), (2, (0, b)), (3, (0, q))]) (st' := [(0, 0)]) rfl ?_
    refine jzret hF hr (by omega) (by decide +kernel) ?_
    exact lMB0 ⟨hR, by exact ⟨fun h => absurd h (by omega), fun _ => ⟨id, rfl⟩⟩⟩
set_option maxHeartbeats 4000000 in
set_option maxRecDepth 100000 in
theorem c_X12_least {l : Launch} {g : GP} (hG : GH g) {kd : Int → Nat} {ln : Int → Int} {mem : Int → Int → Int} {sz : Nat} (hS : SK kd ln) (hR : SR mem) (p b q : Int) (h_p : InI p) (h_b : InI b) (h_q : InI q) (hPS : PGS mem) (hSL : SLS mem) (h0 : 0 ≤ mem 35 0 ∧ mem 35 0 ≤ 1000) : MT l g yX12_least cX12_least 4 (some .int) 7 0 0 [(2, 35), (0, p), (0, b), (0, q)] kd ln mem sz (pMR 0 (fun v mem' => SR mem' ∧ (((isPg mem p ∧ (0 ≤ b ∧ b ≤ (mem 47 p + mem 52 p - 1) / mem 52 p - 1) ∧ isKn mem q) → v = (leastS mem p b q).1 ∧ FL mem mem') ∧ (¬ (isPg mem p ∧ (0 ≤ b ∧ b ≤ (mem 47 p + mem 52 p - 1) / mem 52 p - 1) ∧ isKn mem q) → v = -1 ∧ mem' = mem))) kd ln sz) := by
  refine MT_of hG (by decide +kernel) (Nat.le_of_ble_eq_true rfl) (fun z hF hr hn => ?_)
  refine jblk hF [(.aload_n 0, 1), (.iload_n 1, 1), (.iload_n 2, 1), (.iload_n 3, 1)] (by decide +kernel) (pc' := 4) (lo' := [(0, (2, 35)), (1, (0, p)), (2, (0, b)), (3, (0, q))]) (st' := [(0, q), (0, b), (0, p), (2, 35)]) rfl ?_
  refine jcallV hF (c_X12_findLeast hG hS hR p b q (by omega) (by omega) (by omega) (by exact hPS) (by exact hSL) (by omega)) MW_X12_findLeast 13 (by decide) (by exact hS.k35) wd_2112 wd_2114 wd_p95 (by decide +kernel) [] rfl rfl (by decide) (Nat.le_of_ble_eq_true rfl) (by decide) (kMB (fun m_1 h_2 => ?_) (fun m_1 h_2 => ?_))
  · obtain ⟨hR_m_1, h_2⟩ := h_2
    have hK := h_2
    have hK1 : (isPg mem p ∧ (0 ≤ b ∧ b ≤ (mem 47 p + mem 52 p - 1) / mem 52 p - 1) ∧ isKn mem q) → m_1 35 55 = (leastS mem p b q).1 ∧ m_1 35 56 = (leastS mem p b q).2.1 := fun h => ⟨(hK.1 h).2.2.1, (hK.1 h).2.2.2.1⟩
    refine jif_eq hF (off := 10) 17 (by decide +kernel) (by decide) (by decide) (fun h => absurd h (by decide)) (fun _ => ?_)
    refine jblk hF [(.aload_n 0, 1)] (by decide +kernel) (pc' := 11) (lo' := [(0, (2, 35)), (1, (0, p)), (2, (0, b)), (3, (0, q))]) (st' := [(2, 35)]) rfl ?_
    refine jget hF 13 55 0 55 rfl (by decide) (by decide) rfl wd_1518 (by decide +kernel) (by exact hS.k35) ?_
    refine jgoto hF (off := 4) 18 (by decide +kernel) (by decide) ?_
    refine jiret hF hr (by decide +kernel) ?_
    exact lMR ⟨hR_m_1, by first | (have hC := Decidable.byContradiction (fun q9 => (hK.2 q9).1 trivial); have hn9 := (hK.1 hC).1.mp trivial; have h1 := hK1 hC; exact ⟨fun _ => ⟨by first | omega | (rw [if_neg hn9]; omega), (hK.1 hC).2.1⟩, fun h => absurd hC h⟩) | (refine ⟨fun h => ⟨?_, (hK.1 h).2.1⟩, fun h => ⟨rfl, (hK.2 h).2⟩⟩; have h9 : (leastS mem p b q).1 = -1 := Decidable.byContradiction (fun q => (hK.1 h).1.mpr q); first | omega | (rw [if_pos h9]))⟩
  · obtain ⟨hR_m_1, h_2⟩ := h_2
    have hK := h_2
    have hK1 : (isPg mem p ∧ (0 ≤ b ∧ b ≤ (mem 47 p + mem 52 p - 1) / mem 52 p - 1) ∧ isKn mem q) → m_1 35 55 = (leastS mem p b q).1 ∧ m_1 35 56 = (leastS mem p b q).2.1 := fun h => ⟨(hK.1 h).2.2.1, (hK.1 h).2.2.2.1⟩
    refine jif_eq hF (off := 10) 17 (by decide +kernel) (by decide) (by decide) (fun _ => ?_) (fun h => absurd h (by decide))
    refine jblk hF [(.iconst (-1), 1)] (by decide +kernel) (pc' := 18) (lo' := [(0, (2, 35)), (1, (0, p)), (2, (0, b)), (3, (0, q))]) (st' := [(0, (-1))]) rfl ?_
    refine jiret hF hr (by decide +kernel) ?_
    exact lMR ⟨hR_m_1, by first | (have hC := Decidable.byContradiction (fun q9 => (hK.2 q9).1 trivial); have hn9 := (hK.1 hC).1.mp trivial; have h1 := hK1 hC; exact ⟨fun _ => ⟨by first | omega | (rw [if_neg hn9]; omega), (hK.1 hC).2.1⟩, fun h => absurd hC h⟩) | (refine ⟨fun h => ⟨?_, (hK.1 h).2.1⟩, fun h => ⟨rfl, (hK.2 h).2⟩⟩; have h9 : (leastS mem p b q).1 = -1 := Decidable.byContradiction (fun q => (hK.1 h).1.mpr q); first | omega | (rw [if_pos h9]))⟩
set_option maxHeartbeats 4000000 in
set_option maxRecDepth 100000 in
theorem c_X12_ways {l : Launch} {g : GP} (hG : GH g) {kd : Int → Nat} {ln : Int → Int} {mem : Int → Int → Int} {sz : Nat} (hS : SK kd ln) (hR : SR mem) (p b q : Int) (h_p : InI p) (h_b : InI b) (h_q : InI q) (hPS : PGS mem) (hSL : SLS mem) (h0 : 0 ≤ mem 35 0 ∧ mem 35 0 ≤ 1000) : MT l g yX12_ways cX12_ways 4 (some .int) 7 0 0 [(2, 35), (0, p), (0, b), (0, q)] kd ln mem sz (pMR 0 (fun v mem' => SR mem' ∧ (((isPg mem p ∧ (0 ≤ b ∧ b ≤ (mem 47 p + mem 52 p - 1) / mem 52 p - 1) ∧ isKn mem q) → v = (if (leastS mem p b q).1 = -1 then -1 else (leastS mem p b q).2.1) ∧ FL mem mem') ∧ (¬ (isPg mem p ∧ (0 ≤ b ∧ b ≤ (mem 47 p + mem 52 p - 1) / mem 52 p - 1) ∧ isKn mem q) → v = -1 ∧ mem' = mem))) kd ln sz) := by
  refine MT_of hG (by decide +kernel) (Nat.le_of_ble_eq_true rfl) (fun z hF hr hn => ?_)
  refine jblk hF [(.aload_n 0, 1), (.iload_n 1, 1), (.iload_n 2, 1), (.iload_n 3, 1)] (by decide +kernel) (pc' := 4) (lo' := [(0, (2, 35)), (1, (0, p)), (2, (0, b)), (3, (0, q))]) (st' := [(0, q), (0, b), (0, p), (2, 35)]) rfl ?_
  refine jcallV hF (c_X12_findLeast hG hS hR p b q (by omega) (by omega) (by omega) (by exact hPS) (by exact hSL) (by omega)) MW_X12_findLeast 13 (by decide) (by exact hS.k35) wd_2112 wd_2114 wd_p95 (by decide +kernel) [] rfl rfl (by decide) (Nat.le_of_ble_eq_true rfl) (by decide) (kMB (fun m_1 h_2 => ?_) (fun m_1 h_2 => ?_))
  · obtain ⟨hR_m_1, h_2⟩ := h_2
    have hK := h_2
    have hK1 : (isPg mem p ∧ (0 ≤ b ∧ b ≤ (mem 47 p + mem 52 p - 1) / mem 52 p - 1) ∧ isKn mem q) → m_1 35 55 = (leastS mem p b q).1 ∧ m_1 35 56 = (leastS mem p b q).2.1 := fun h => ⟨(hK.1 h).2.2.1, (hK.1 h).2.2.2.1⟩
    refine jif_eq hF (off := 10) 17 (by decide +kernel) (by decide) (by decide) (fun h => absurd h (by decide)) (fun _ => ?_)
    refine jblk hF [(.aload_n 0, 1)] (by decide +kernel) (pc' := 11) (lo' := [(0, (2, 35)), (1, (0, p)), (2, (0, b)), (3, (0, q))]) (st' := [(2, 35)]) rfl ?_
    refine jget hF 13 56 0 56 rfl (by decide) (by decide) rfl wd_1519 (by decide +kernel) (by exact hS.k35) ?_
    refine jgoto hF (off := 4) 18 (by decide +kernel) (by decide) ?_
    refine jiret hF hr (by decide +kernel) ?_
    exact lMR ⟨hR_m_1, by first | (have hC := Decidable.byContradiction (fun q9 => (hK.2 q9).1 trivial); have hn9 := (hK.1 hC).1.mp trivial; have h1 := hK1 hC; exact ⟨fun _ => ⟨by first | omega | (rw [if_neg hn9]; omega), (hK.1 hC).2.1⟩, fun h => absurd hC h⟩) | (refine ⟨fun h => ⟨?_, (hK.1 h).2.1⟩, fun h => ⟨rfl, (hK.2 h).2⟩⟩; have h9 : (leastS mem p b q).1 = -1 := Decidable.byContradiction (fun q => (hK.1 h).1.mpr q); first | omega | (rw [if_pos h9]))⟩
  · obtain ⟨hR_m_1, h_2⟩ := h_2
    have hK := h_2
    have hK1 : (isPg mem p ∧ (0 ≤ b ∧ b ≤ (mem 47 p + mem 52 p - 1) / mem 52 p - 1) ∧ isKn mem q) → m_1 35 55 = (leastS mem p b q).1 ∧ m_1 35 56 = (leastS mem p b q).2.1 := fun h => ⟨(hK.1 h).2.2.1, (hK.1 h).2.2.2.1⟩
    refine jif_eq hF (off := 10) 17 (by decide +kernel) (by decide) (by decide) (fun _ => ?_) (fun h => absurd h (by decide))
    refine jblk hF [(.iconst (-1), 1)] (by decide +kernel) (pc' := 18) (lo' := [(0, (2, 35)), (1, (0, p)), (2, (0, b)), (3, (0, q))]) (st' := [(0, (-1))]) rfl ?_
    refine jiret hF hr (by decide +kernel) ?_
    exact lMR ⟨hR_m_1, by first | (have hC := Decidable.byContradiction (fun q9 => (hK.2 q9).1 trivial); have hn9 := (hK.1 hC).1.mp trivial; have h1 := hK1 hC; exact ⟨fun _ => ⟨by first | omega | (rw [if_neg hn9]; omega), (hK.1 hC).2.1⟩, fun h => absurd hC h⟩) | (refine ⟨fun h => ⟨?_, (hK.1 h).2.1⟩, fun h => ⟨rfl, (hK.2 h).2⟩⟩; have h9 : (leastS mem p b q).1 = -1 := Decidable.byContradiction (fun q => (hK.1 h).1.mpr q); first | omega | (rw [if_pos h9]))⟩
set_option maxHeartbeats 4000000 in
set_option maxRecDepth 100000 in
theorem c_X12_first {l : Launch} {g : GP} (hG : GH g) {kd : Int → Nat} {ln : Int → Int} {mem : Int → Int → Int} {sz : Nat} (hS : SK kd ln) (hR : SR mem) (p b q i w : Int) (h_p : InI p) (h_b : InI b) (h_q : InI q) (h_i : InI i) (h_w : InI w) (hPS : PGS mem) (hSL : SLS mem) (h0 : 0 ≤ mem 35 0 ∧ mem 35 0 ≤ 1000) : MT l g yX12_first cX12_first 6 (some .long) 7 0 0 [(2, 35), (0, p), (0, b), (0, q), (0, i), (0, w)] kd ln mem sz (pMR 1 (fun v mem' => SR mem' ∧ ((((isPg mem p ∧ (0 ≤ b ∧ b ≤ (mem 47 p + mem 52 p - 1) / mem 52 p - 1) ∧ isKn mem q) ∧ (leastS mem p b q).1 ≠ -1 ∧ 0 ≤ i ∧ i ≤ (leastS mem p b q).1 - 1 ∧ 0 ≤ w ∧ w ≤ 2) → v = (if w = 0 then (leastS mem p b q).2.2.1 i else if w = 1 then (leastS mem p b q).2.2.2.1 i else (leastS mem p b q).2.2.2.2 i)) ∧ (¬ ((isPg mem p ∧ (0 ≤ b ∧ b ≤ (mem 47 p + mem 52 p - 1) / mem 52 p - 1) ∧ isKn mem q) ∧ (leastS mem p b q).1 ≠ -1 ∧ 0 ≤ i ∧ i ≤ (leastS mem p b q).1 - 1 ∧ 0 ≤ w ∧ w ≤ 2) → v = -2000000000) ∧ ((isPg mem p ∧ (0 ≤ b ∧ b ≤ (mem 47 p + mem 52 p - 1) / mem 52 p - 1) ∧ isKn mem q) → FL mem mem') ∧ (¬ (isPg mem p ∧ (0 ≤ b ∧ b ≤ (mem 47 p + mem 52 p - 1) / mem 52 p - 1) ∧ isKn mem q) → mem' = mem))) kd ln sz) := by
  refine MT_of hG (by decide +kernel) (Nat.le_of_ble_eq_true rfl) (fun z hF hr hn => ?_)
  refine jblk hF [(.aload_n 0, 1), (.iload_n 1, 1), (.iload_n 2, 1), (.iload_n 3, 1)] (by decide +kernel) (pc' := 4) (lo' := [(0, (2, 35)), (1, (0, p)), (2, (0, b)), (3, (0, q)), (4, (0, i)), (5, (0, w))]) (st' := [(0, q), (0, b), (0, p), (2, 35)]) rfl ?_
  refine jcallV hF (c_X12_findLeast hG hS hR p b q (by omega) (by omega) (by omega) (by exact hPS) (by exact hSL) (by omega)) MW_X12_findLeast 13 (by decide) (by exact hS.k35) wd_2112 wd_2114 wd_p95 (by decide +kernel) [] rfl rfl (by decide) (Nat.le_of_ble_eq_true rfl) (by decide) (kMB (fun m_1 h_2 => ?_) (fun m_1 h_2 => ?_))
  · obtain ⟨hR_m_1, h_2⟩ := h_2
    have hK := h_2
    have hLb := leastS_bd mem p b q
    have hK1 : (isPg mem p ∧ (0 ≤ b ∧ b ≤ (mem 47 p + mem 52 p - 1) / mem 52 p - 1) ∧ isKn mem q) → m_1 35 55 = (leastS mem p b q).1 ∧ m_1 35 56 = (leastS mem p b q).2.1 := fun h => ⟨(hK.1 h).2.2.1, (hK.1 h).2.2.2.1⟩
    have hK2 : (isPg mem p ∧ (0 ≤ b ∧ b ≤ (mem 47 p + mem 52 p - 1) / mem 52 p - 1) ∧ isKn mem q) → ∀ j : Int, 0 ≤ j → j < (leastS mem p b q).1 → m_1 74 j = (leastS mem p b q).2.2.1 j ∧ m_1 75 j = (leastS mem p b q).2.2.2.1 j ∧ m_1 76 j = (leastS mem p b q).2.2.2.2 j := fun h => (hK.1 h).2.2.2.2
    refine jif_eq hF (off := 18) 25 (by decide +kernel) (by decide) (by decide) (fun h => absurd h (by decide)) (fun _ => ?_)
    have hC := Decidable.byContradiction (fun q9 => (hK.2 q9).1 trivial)
    have hn9 := (hK.1 hC).1.mp trivial
    have h1 := hK1 hC
    have hp := hPS.2.2 p (by omega) (by omega)
    have hbb := blk_bd (L := mem 47 p) (m := mem 52 p) (b := b) (by omega) (by omega) (by omega)
    have hrg := leastS_rg (mem := mem) (p := p) (b := b) (q := q) (by unfold blkN; split <;> omega) (by omega) (by omega)
    refine jblk hF [(.iload 4, 2), (.iconst 0, 1), (.aload_n 0, 1)] (by decide +kernel) (pc' := 14) (lo' := [(0, (2, 35)), (1, (0, p)), (2, (0, b)), (3, (0, q)), (4, (0, i)), (5, (0, w))]) (st' := [(2, 35), (0, 0), (0, i)]) rfl ?_
    refine jget hF 13 55 0 55 rfl (by decide) (by decide) rfl wd_1518 (by decide +kernel) (by exact hS.k35) ?_
    refine jblk hF [(.iconst 1, 1), (.isub, 1)] (by decide +kernel) (pc' := 19) (lo' := [(0, (2, 35)), (1, (0, p)), (2, (0, b)), (3, (0, q)), (4, (0, i)), (5, (0, w))]) (st' := [(0, (m_1 35 55) - 1), (0, 0), (0, i)]) rfl ?_
    refine jcallS hF (c_X12_in hG i 0 ((m_1 35 55) - 1) (by omega) (by decide) (by omega)) MW_X12_in wd_1743 wd_1744 (by decide +kernel) [] rfl rfl (by decide) (Nat.le_of_ble_eq_true rfl) (by decide) (kB (fun h_4 => ?_) (fun h_4 => ?_))
    · refine jif_ne hF (off := 7) 29 (by decide +kernel) (by decide) (by decide) (fun _ => ?_) (fun h => absurd h (by decide))
      have h2 := hK2 hC i (by omega) (by omega)
      have hr2 := hrg i (by omega) (by omega)
      refine jblk hF [(.iload 5, 2)] (by decide +kernel) (pc' := 31) (lo' := [(0, (2, 35)), (1, (0, p)), (2, (0, b)), (3, (0, q)), (4, (0, i)), (5, (0, w))]) (st' := [(0, w)]) rfl ?_
      by_cases h_6 : w = 0
      · refine jtabIn hF (dflt := 51) (lo' := 0) (hi := 2) (offs := #[25, 34, 43]) (len := 25) 0 25 56 (by decide +kernel) h_6 (by decide) (by decide) (by decide) rfl (by decide) ?_
        refine jblk hF [(.aload_n 0, 1)] (by decide +kernel) (pc' := 57) (lo' := [(0, (2, 35)), (1, (0, p)), (2, (0, b)), (3, (0, q)), (4, (0, i)), (5, (0, w))]) (st' := [(2, 35)]) rfl ?_
        refine jget hF 13 52 2 52 rfl (by decide) (by decide) rfl wd_1515 (by decide +kernel) (by exact hS.k35) ?_
        rw [SR.r52 hR_m_1]
        refine jblk hF [(.iload 4, 2)] (by decide +kernel) (pc' := 62) (lo' := [(0, (2, 35)), (1, (0, p)), (2, (0, b)), (3, (0, q)), (4, (0, i)), (5, (0, w))]) (st' := [(0, i), (2, 74)]) rfl ?_
        refine jiald hF (by decide +kernel) (by exact hS.k74) (by omega) (by have := hS.l74; omega) ?_
        refine ji2l hF (by decide +kernel) (by omega) ?_
        refine jlret hF hr (by decide +kernel) ?_
        exact lMR ⟨hR_m_1, by first | (refine ⟨fun h => ?_, fun h => ?_, fun _ => (hK.1 hC).2.1, fun h => absurd hC h⟩; ((repeat' split) <;> first | exact h2.1 | exact h2.2.1 | exact h2.2.2 | (exfalso; omega)); (first | rfl | exact absurd ⟨hC, hn9, by omega, by omega, by omega, by omega⟩ h)) | exact ⟨fun h => absurd h (by omega), fun _ => rfl, fun _ => (hK.1 hC).2.1, fun h => absurd hC h⟩ | exact ⟨fun h => absurd h.2.1 (fun q9 => (hK.1 h.1).1.mpr q9), fun _ => rfl, fun h => (hK.1 h).2.1, fun h => (hK.2 h).2⟩⟩
      by_cases h_7 : w = 1
      · refine jtabIn hF (dflt := 51) (lo' := 0) (hi := 2) (offs := #[25, 34, 43]) (len := 25) 1 34 65 (by decide +kernel) h_7 (by decide) (by decide) (by decide) rfl (by decide) ?_
        refine jblk hF [(.aload_n 0, 1)] (by decide +kernel) (pc' := 66) (lo' := [(0, (2, 35)), (1, (0, p)), (2, (0, b)), (3, (0, q)), (4, (0, i)), (5, (0, w))]) (st' := [(2, 35)]) rfl ?_
        refine jget hF 13 53 2 53 rfl (by decide) (by decide) rfl wd_1516 (by decide +kernel) (by exact hS.k35) ?_
        rw [SR.r53 hR_m_1]
        refine jblk hF [(.iload 4, 2)] (by decide +kernel) (pc' := 71) (lo' := [(0, (2, 35)), (1, (0, p)), (2, (0, b)), (3, (0, q)), (4, (0, i)), (5, (0, w))]) (st' := [(0, i), (2, 75)]) rfl ?_
        refine jiald hF (by decide +kernel) (by exact hS.k75) (by omega) (by have := hS.l75; omega) ?_
        refine ji2l hF (by decide +kernel) (by omega) ?_
        refine jlret hF hr (by decide +kernel) ?_
        exact lMR ⟨hR_m_1, by first | (refine ⟨fun h => ?_, fun h => ?_, fun _ => (hK.1 hC).2.1, fun h => absurd hC h⟩; ((repeat' split) <;> first | exact h2.1 | exact h2.2.1 | exact h2.2.2 | (exfalso; omega)); (first | rfl | exact absurd ⟨hC, hn9, by omega, by omega, by omega, by omega⟩ h)) | exact ⟨fun h => absurd h (by omega), fun _ => rfl, fun _ => (hK.1 hC).2.1, fun h => absurd hC h⟩ | exact ⟨fun h => absurd h.2.1 (fun q9 => (hK.1 h.1).1.mpr q9), fun _ => rfl, fun h => (hK.1 h).2.1, fun h => (hK.2 h).2⟩⟩
      by_cases h_8 : w = 2
      · refine jtabIn hF (dflt := 51) (lo' := 0) (hi := 2) (offs := #[25, 34, 43]) (len := 25) 2 43 74 (by decide +kernel) h_8 (by decide) (by decide) (by decide) rfl (by decide) ?_
        refine jblk hF [(.aload_n 0, 1)] (by decide +kernel) (pc' := 75) (lo' := [(0, (2, 35)), (1, (0, p)), (2, (0, b)), (3, (0, q)), (4, (0, i)), (5, (0, w))]) (st' := [(2, 35)]) rfl ?_
        refine jget hF 13 54 2 54 rfl (by decide) (by decide) rfl wd_1517 (by decide +kernel) (by exact hS.k35) ?_
        rw [SR.r54 hR_m_1]
        refine jblk hF [(.iload 4, 2)] (by decide +kernel) (pc' := 80) (lo' := [(0, (2, 35)), (1, (0, p)), (2, (0, b)), (3, (0, q)), (4, (0, i)), (5, (0, w))]) (st' := [(0, i), (2, 76)]) rfl ?_
        refine jlald hF (by decide +kernel) (by exact hS.k76) (by omega) (by have := hS.l76; omega) ?_
        refine jlret hF hr (by decide +kernel) ?_
        exact lMR ⟨hR_m_1, by first | (refine ⟨fun h => ?_, fun h => ?_, fun _ => (hK.1 hC).2.1, fun h => absurd hC h⟩; ((repeat' split) <;> first | exact h2.1 | exact h2.2.1 | exact h2.2.2 | (exfalso; omega)); (first | rfl | exact absurd ⟨hC, hn9, by omega, by omega, by omega, by omega⟩ h)) | exact ⟨fun h => absurd h (by omega), fun _ => rfl, fun _ => (hK.1 hC).2.1, fun h => absurd hC h⟩ | exact ⟨fun h => absurd h.2.1 (fun q9 => (hK.1 h.1).1.mpr q9), fun _ => rfl, fun h => (hK.1 h).2.1, fun h => (hK.2 h).2⟩⟩
      refine jtabOut hF (dflt := 51) (lo' := 0) (hi := 2) (offs := #[25, 34, 43]) (len := 25) 82 (by decide +kernel) (by omega) (by omega) (by decide) ?_
      refine jldc2 hF (-2000000000) (cst_l wd_2133 (by decide)) (by decide +kernel) ?_
      refine jlret hF hr (by decide +kernel) ?_
      exact lMR ⟨hR_m_1, by first | (refine ⟨fun h => ?_, fun h => ?_, fun _ => (hK.1 hC).2.1, fun h => absurd hC h⟩; ((repeat' split) <;> first | exact h2.1 | exact h2.2.1 | exact h2.2.2 | (exfalso; omega)); (first | rfl | exact absurd ⟨hC, hn9, by omega, by omega, by omega, by omega⟩ h)) | exact ⟨fun h => absurd h (by omega), fun _ => rfl, fun _ => (hK.1 hC).2.1, fun h => absurd hC h⟩ | exact ⟨fun h => absurd h.2.1 (fun q9 => (hK.1 h.1).1.mpr q9), fun _ => rfl, fun h => (hK.1 h).2.1, fun h => (hK.2 h).2⟩⟩
    · refine jif_ne hF (off := 7) 29 (by decide +kernel) (by decide) (by decide) (fun h => absurd h (by decide)) (fun _ => ?_)
      refine jldc2 hF (-2000000000) (cst_l wd_2133 (by decide)) (by decide +kernel) ?_
      refine jlret hF hr (by decide +kernel) ?_
      exact lMR ⟨hR_m_1, by first | (refine ⟨fun h => ?_, fun h => ?_, fun _ => (hK.1 hC).2.1, fun h => absurd hC h⟩; ((repeat' split) <;> first | exact h2.1 | exact h2.2.1 | exact h2.2.2 | (exfalso; omega)); (first | rfl | exact absurd ⟨hC, hn9, by omega, by omega, by omega, by omega⟩ h)) | exact ⟨fun h => absurd h (by omega), fun _ => rfl, fun _ => (hK.1 hC).2.1, fun h => absurd hC h⟩ | exact ⟨fun h => absurd h.2.1 (fun q9 => (hK.1 h.1).1.mpr q9), fun _ => rfl, fun h => (hK.1 h).2.1, fun h => (hK.2 h).2⟩⟩
  · obtain ⟨hR_m_1, h_2⟩ := h_2
    have hK := h_2
    have hLb := leastS_bd mem p b q
    have hK1 : (isPg mem p ∧ (0 ≤ b ∧ b ≤ (mem 47 p + mem 52 p - 1) / mem 52 p - 1) ∧ isKn mem q) → m_1 35 55 = (leastS mem p b q).1 ∧ m_1 35 56 = (leastS mem p b q).2.1 := fun h => ⟨(hK.1 h).2.2.1, (hK.1 h).2.2.2.1⟩
    have hK2 : (isPg mem p ∧ (0 ≤ b ∧ b ≤ (mem 47 p + mem 52 p - 1) / mem 52 p - 1) ∧ isKn mem q) → ∀ j : Int, 0 ≤ j → j < (leastS mem p b q).1 → m_1 74 j = (leastS mem p b q).2.2.1 j ∧ m_1 75 j = (leastS mem p b q).2.2.2.1 j ∧ m_1 76 j = (leastS mem p b q).2.2.2.2 j := fun h => (hK.1 h).2.2.2.2
    refine jif_eq hF (off := 18) 25 (by decide +kernel) (by decide) (by decide) (fun _ => ?_) (fun h => absurd h (by decide))
    refine jldc2 hF (-2000000000) (cst_l wd_2133 (by decide)) (by decide +kernel) ?_
    refine jlret hF hr (by decide +kernel) ?_
    exact lMR ⟨hR_m_1, by first | (refine ⟨fun h => ?_, fun h => ?_, fun _ => (hK.1 hC).2.1, fun h => absurd hC h⟩; ((repeat' split) <;> first | exact h2.1 | exact h2.2.1 | exact h2.2.2 | (exfalso; omega)); (first | rfl | exact absurd ⟨hC, hn9, by omega, by omega, by omega, by omega⟩ h)) | exact ⟨fun h => absurd h (by omega), fun _ => rfl, fun _ => (hK.1 hC).2.1, fun h => absurd hC h⟩ | exact ⟨fun h => absurd h.2.1 (fun q9 => (hK.1 h.1).1.mpr q9), fun _ => rfl, fun h => (hK.1 h).2.1, fun h => (hK.2 h).2⟩⟩
end
